theorem kX6_canSee : pX6_canSee.all (am_oki am_B (yX6_canSee, cX6_canSee, some .boolean, 1) am_sites am_nests) = true := by decide +kernel
theorem qX6_canSee : am_okm (yX6_canSee, cX6_canSee, some .boolean, 1) (pX6_canSee, 2, 2, 2) [1377, 127, 1376, 88] = true := by decide +kernel
theorem kX6_takesForSeeing : pX6_takesForSeeing.all (am_oki am_B (yX6_takesForSeeing, cX6_takesForSeeing, some .boolean, 1) am_sites am_nests) = true := by decide +kernel
theorem qX6_takesForSeeing : am_okm (yX6_takesForSeeing, cX6_takesForSeeing, some .boolean, 1) (pX6_takesForSeeing, 3, 3, 2) [1381, 127, 1380, 89] = true := by decide +kernel
theorem kX6_moves : pX6_moves.all (am_oki am_B (yX6_moves, cX6_moves, none, 1) am_sites am_nests) = true := by decide +kernel
theorem qX6_moves : am_okm (yX6_moves, cX6_moves, none, 1) (pX6_moves, 5, 8, 0) [1373, 127, 1372, 87] = true := by decide +kernel
theorem kX6_tells : pX6_tells.all (am_oki am_B (yX6_tells, cX6_tells, none, 1) am_sites am_nests) = true := by decide +kernel
theorem qX6_tells : am_okm (yX6_tells, cX6_tells, none, 1) (pX6_tells, 5, 6, 0) [1385, 127, 1384, 90] = true := by decide +kernel
theorem kX6_lifts : pX6_lifts.all (am_oki am_B (yX6_lifts, cX6_lifts, none, 1) am_sites am_nests) = true := by decide +kernel
theorem qX6_lifts : am_okm (yX6_lifts, cX6_lifts, none, 1) (pX6_lifts, 3, 6, 0) [1389, 127, 1388, 91] = true := by decide +kernel
theorem kX6_acts : pX6_acts.all (am_oki am_B (yX6_acts, cX6_acts, none, 1) am_sites am_nests) = true := by decide +kernel
theorem qX6_acts : am_okm (yX6_acts, cX6_acts, none, 1) (pX6_acts, 6, 7, 0) [1369, 127, 1368, 86] = true := by decide +kernel
theorem kX6_goes : pX6_goes.all (am_oki am_B (yX6_goes, cX6_goes, none, 1) am_sites am_nests) = true := by decide +kernel
theorem qX6_goes : am_okm (yX6_goes, cX6_goes, none, 1) (pX6_goes, 2, 4, 0) [1361, 127, 1360, 84] = true := by decide +kernel
theorem kX6_isScene : pX6_isScene.all (am_oki am_B (yX6_isScene, cX6_isScene, some .boolean, 0) am_sites am_nests) = true := by decide +kernel
theorem qX6_isScene : am_okm (yX6_isScene, cX6_isScene, some .boolean, 0) (pX6_isScene, 1, 1, 2) [1351, 127, 1350, 0] = true := by decide +kernel
theorem kX6_isWho : pX6_isWho.all (am_oki am_B (yX6_isWho, cX6_isWho, some .boolean, 0) am_sites am_nests) = true := by decide +kernel
theorem qX6_isWho : am_okm (yX6_isWho, cX6_isWho, some .boolean, 0) (pX6_isWho, 1, 1, 2) [1357, 127, 1356, 0] = true := by decide +kernel
theorem kX6_isThing : pX6_isThing.all (am_oki am_B (yX6_isThing, cX6_isThing, some .boolean, 0) am_sites am_nests) = true := by decide +kernel
theorem qX6_isThing : am_okm (yX6_isThing, cX6_isThing, some .boolean, 0) (pX6_isThing, 1, 1, 2) [1354, 127, 1353, 0] = true := by decide +kernel
theorem kX6_after : pX6_after.all (am_oki am_B (yX6_after, cX6_after, some .int, 1) am_sites am_nests) = true := by decide +kernel
theorem qX6_after : am_okm (yX6_after, cX6_after, some .int, 1) (pX6_after, 5, 5, 1) [1348, 127, 1346, 1347] = true := by decide +kernel
theorem kX6_thinks : pX6_thinks.all (am_oki am_B (yX6_thinks, cX6_thinks, some .int, 1) am_sites am_nests) = true := by decide +kernel
theorem qX6_thinks : am_okm (yX6_thinks, cX6_thinks, some .int, 1) (pX6_thinks, 5, 5, 1) [1393, 127, 1391, 1392] = true := by decide +kernel
theorem kX6_here : pX6_here.all (am_oki am_B (yX6_here, cX6_here, some .int, 1) am_sites am_nests) = true := by decide +kernel
theorem qX6_here : am_okm (yX6_here, cX6_here, some .int, 1) (pX6_here, 4, 5, 1) [1397, 127, 1395, 1396] = true := by decide +kernel
theorem kX6_asked : pX6_asked.all (am_oki am_B (yX6_asked, cX6_asked, some .int, 1) am_sites am_nests) = true := by decide +kernel
theorem qX6_asked : am_okm (yX6_asked, cX6_asked, some .int, 1) (pX6_asked, 3, 3, 1) [1417, 127, 1416, 94] = true := by decide +kernel
theorem kX6_isQuestion : pX6_isQuestion.all (am_oki am_B (yX6_isQuestion, cX6_isQuestion, some .boolean, 1) am_sites am_nests) = true := by decide +kernel
theorem qX6_isQuestion : am_okm (yX6_isQuestion, cX6_isQuestion, some .boolean, 1) (pX6_isQuestion, 2, 2, 2) [1409, 127, 1408, 92] = true := by decide +kernel
theorem kX6_question : pX6_question.all (am_oki am_B (yX6_question, cX6_question, some .int, 1) am_sites am_nests) = true := by decide +kernel
theorem qX6_question : am_okm (yX6_question, cX6_question, some .int, 1) (pX6_question, 6, 7, 1) [1401, 127, 1399, 1400] = true := by decide +kernel
theorem kX6_saysNow : pX6_saysNow.all (am_oki am_B (yX6_saysNow, cX6_saysNow, some .int, 1) am_sites am_nests) = true := by decide +kernel
theorem qX6_saysNow : am_okm (yX6_saysNow, cX6_saysNow, some .int, 1) (pX6_saysNow, 3, 6, 1) [1421, 127, 1420, 95] = true := by decide +kernel
theorem kX6_saysOf : pX6_saysOf.all (am_oki am_B (yX6_saysOf, cX6_saysOf, some .int, 1) am_sites am_nests) = true := by decide +kernel
theorem qX6_saysOf : am_okm (yX6_saysOf, cX6_saysOf, some .int, 1) (pX6_saysOf, 3, 3, 1) [1425, 127, 1424, 96] = true := by decide +kernel
theorem kX6_tellsSome : pX6_tellsSome.all (am_oki am_B (yX6_tellsSome, cX6_tellsSome, some .boolean, 1) am_sites am_nests) = true := by decide +kernel
theorem qX6_tellsSome : am_okm (yX6_tellsSome, cX6_tellsSome, some .boolean, 1) (pX6_tellsSome, 2, 2, 2) [1413, 127, 1412, 93] = true := by decide +kernel
theorem kX6_says : pX6_says.all (am_oki am_B (yX6_says, cX6_says, some .int, 1) am_sites am_nests) = true := by decide +kernel
theorem qX6_says : am_okm (yX6_says, cX6_says, some .int, 1) (pX6_says, 3, 3, 1) [1405, 127, 1403, 1404] = true := by decide +kernel
theorem kX6_ofChild : pX6_ofChild.all (am_oki am_B (yX6_ofChild, cX6_ofChild, some .int, 1) am_sites am_nests) = true := by decide +kernel
theorem qX6_ofChild : am_okm (yX6_ofChild, cX6_ofChild, some .int, 1) (pX6_ofChild, 3, 3, 1) [1451, 127, 1450, 99] = true := by decide +kernel
theorem kX6_isChild : pX6_isChild.all (am_oki am_B (yX6_isChild, cX6_isChild, some .boolean, 1) am_sites am_nests) = true := by decide +kernel
theorem qX6_isChild : am_okm (yX6_isChild, cX6_isChild, some .boolean, 1) (pX6_isChild, 2, 2, 2) [1440, 127, 1439, 97] = true := by decide +kernel
theorem kX6_isLaw : pX6_isLaw.all (am_oki am_B (yX6_isLaw, cX6_isLaw, some .boolean, 0) am_sites am_nests) = true := by decide +kernel
theorem qX6_isLaw : am_okm (yX6_isLaw, cX6_isLaw, some .boolean, 0) (pX6_isLaw, 1, 1, 2) [1432, 127, 1431, 0] = true := by decide +kernel
theorem kX6_isHow : pX6_isHow.all (am_oki am_B (yX6_isHow, cX6_isHow, some .boolean, 0) am_sites am_nests) = true := by decide +kernel
theorem qX6_isHow : am_okm (yX6_isHow, cX6_isHow, some .boolean, 0) (pX6_isHow, 1, 1, 2) [1443, 127, 1442, 0] = true := by decide +kernel
theorem kX6_child : pX6_child.all (am_oki am_B (yX6_child, cX6_child, some .int, 1) am_sites am_nests) = true := by decide +kernel
theorem qX6_child : am_okm (yX6_child, cX6_child, some .int, 1) (pX6_child, 5, 6, 1) [1429, 127, 1427, 1428] = true := by decide +kernel
theorem kX6_both : pX6_both.all (am_oki am_B (yX6_both, cX6_both, some .int, 0) am_sites am_nests) = true := by decide +kernel
theorem qX6_both : am_okm (yX6_both, cX6_both, some .int, 0) (pX6_both, 3, 3, 1) [1462, 127, 1461, 0] = true := by decide +kernel
theorem kX6_comesTo : pX6_comesTo.all (am_oki am_B (yX6_comesTo, cX6_comesTo, some .int, 1) am_sites am_nests) = true := by decide +kernel
theorem qX6_comesTo : am_okm (yX6_comesTo, cX6_comesTo, some .int, 1) (pX6_comesTo, 4, 8, 1) [1459, 127, 1458, 101] = true := by decide +kernel
theorem kX6_gathers : pX6_gathers.all (am_oki am_B (yX6_gathers, cX6_gathers, none, 1) am_sites am_nests) = true := by decide +kernel
theorem qX6_gathers : am_okm (yX6_gathers, cX6_gathers, none, 1) (pX6_gathers, 4, 4, 0) [1447, 127, 1446, 98] = true := by decide +kernel
theorem kX6_weighs : pX6_weighs.all (am_oki am_B (yX6_weighs, cX6_weighs, some .int, 1) am_sites am_nests) = true := by decide +kernel
theorem qX6_weighs : am_okm (yX6_weighs, cX6_weighs, some .int, 1) (pX6_weighs, 3, 7, 1) [1455, 127, 1454, 100] = true := by decide +kernel
theorem kX6_weight : pX6_weight.all (am_oki am_B (yX6_weight, cX6_weight, some .int, 1) am_sites am_nests) = true := by decide +kernel
theorem qX6_weight : am_okm (yX6_weight, cX6_weight, some .int, 1) (pX6_weight, 5, 5, 1) [1436, 127, 1434, 1435] = true := by decide +kernel
theorem kX6_allWeights : pX6_allWeights.all (am_oki am_B (yX6_allWeights, cX6_allWeights, some .int, 1) am_sites am_nests) = true := by decide +kernel
theorem qX6_allWeights : am_okm (yX6_allWeights, cX6_allWeights, some .int, 1) (pX6_allWeights, 2, 4, 1) [1470, 127, 1469, 102] = true := by decide +kernel
theorem kX6_ofAnswer : pX6_ofAnswer.all (am_oki am_B (yX6_ofAnswer, cX6_ofAnswer, some .int, 1) am_sites am_nests) = true := by decide +kernel
theorem qX6_ofAnswer : am_okm (yX6_ofAnswer, cX6_ofAnswer, some .int, 1) (pX6_ofAnswer, 3, 3, 1) [1495, 127, 1494, 105] = true := by decide +kernel
theorem kX6_answers : pX6_answers.all (am_oki am_B (yX6_answers, cX6_answers, none, 1) am_sites am_nests) = true := by decide +kernel
theorem qX6_answers : am_okm (yX6_answers, cX6_answers, none, 1) (pX6_answers, 7, 8, 0) [1480, 127, 1479, 104] = true := by decide +kernel
theorem kX6_ask : pX6_ask.all (am_oki am_B (yX6_ask, cX6_ask, some .int, 1) am_sites am_nests) = true := by decide +kernel
theorem qX6_ask : am_okm (yX6_ask, cX6_ask, some .int, 1) (pX6_ask, 4, 9, 1) [1466, 127, 1464, 1465] = true := by decide +kernel
theorem kX6_isAnswer : pX6_isAnswer.all (am_oki am_B (yX6_isAnswer, cX6_isAnswer, some .boolean, 0) am_sites am_nests) = true := by decide +kernel
theorem qX6_isAnswer : am_okm (yX6_isAnswer, cX6_isAnswer, some .boolean, 0) (pX6_isAnswer, 1, 1, 2) [1487, 127, 1486, 0] = true := by decide +kernel
theorem kX6_told : pX6_told.all (am_oki am_B (yX6_told, cX6_told, some .int, 1) am_sites am_nests) = true := by decide +kernel
theorem qX6_told : am_okm (yX6_told, cX6_told, some .int, 1) (pX6_told, 5, 5, 1) [1484, 127, 1482, 1483] = true := by decide +kernel
theorem kX6_answer : pX6_answer.all (am_oki am_B (yX6_answer, cX6_answer, some .int, 1) am_sites am_nests) = true := by decide +kernel
theorem qX6_answer : am_okm (yX6_answer, cX6_answer, some .int, 1) (pX6_answer, 3, 3, 1) [1491, 127, 1489, 1490] = true := by decide +kernel
theorem kX6_chanceOf : pX6_chanceOf.all (am_oki am_B (yX6_chanceOf, cX6_chanceOf, some .int, 1) am_sites am_nests) = true := by decide +kernel
theorem qX6_chanceOf : am_okm (yX6_chanceOf, cX6_chanceOf, some .int, 1) (pX6_chanceOf, 6, 10, 1) [1503, 127, 1502, 106] = true := by decide +kernel
theorem kX6_chance : pX6_chance.all (am_oki am_B (yX6_chance, cX6_chance, some .int, 1) am_sites am_nests) = true := by decide +kernel
theorem qX6_chance : am_okm (yX6_chance, cX6_chance, some .int, 1) (pX6_chance, 6, 6, 1) [1499, 127, 1497, 1498] = true := by decide +kernel
theorem kX6_isRule : pX6_isRule.all (am_oki am_B (yX6_isRule, cX6_isRule, some .boolean, 0) am_sites am_nests) = true := by decide +kernel
theorem qX6_isRule : am_okm (yX6_isRule, cX6_isRule, some .boolean, 0) (pX6_isRule, 1, 1, 2) [1510, 127, 1509, 0] = true := by decide +kernel
theorem kX6_partedBy : pX6_partedBy.all (am_oki am_B (yX6_partedBy, cX6_partedBy, some .int, 1) am_sites am_nests) = true := by decide +kernel
theorem qX6_partedBy : am_okm (yX6_partedBy, cX6_partedBy, some .int, 1) (pX6_partedBy, 3, 5, 1) [1514, 127, 1513, 107] = true := by decide +kernel
theorem kX6_parted : pX6_parted.all (am_oki am_B (yX6_parted, cX6_parted, some .int, 1) am_sites am_nests) = true := by decide +kernel
theorem qX6_parted : am_okm (yX6_parted, cX6_parted, some .int, 1) (pX6_parted, 3, 3, 1) [1507, 127, 1505, 1506] = true := by decide +kernel
theorem kX6_count : pX6_count.all (am_oki am_B (yX6_count, cX6_count, some .int, 0) am_sites am_nests) = true := by decide +kernel
theorem qX6_count : am_okm (yX6_count, cX6_count, some .int, 0) (pX6_count, 1, 3, 1) [1521, 127, 1520, 0] = true := by decide +kernel
theorem kX6_fewest : pX6_fewest.all (am_oki am_B (yX6_fewest, cX6_fewest, some .int, 1) am_sites am_nests) = true := by decide +kernel
theorem qX6_fewest : am_okm (yX6_fewest, cX6_fewest, some .int, 1) (pX6_fewest, 2, 7, 1) [1518, 127, 1516, 1517] = true := by decide +kernel
theorem kX6_unlikeBehind : pX6_unlikeBehind.all (am_oki am_B (yX6_unlikeBehind, cX6_unlikeBehind, some .boolean, 1) am_sites am_nests) = true := by decide +kernel
