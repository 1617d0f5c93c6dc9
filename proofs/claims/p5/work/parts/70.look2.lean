theorem kX5_beside : pX5_beside.all (am_oki am_B (yX5_beside, cX5_beside, some .int, 1) am_sites am_nests) = true := by decide +kernel
theorem qX5_beside : am_okm (yX5_beside, cX5_beside, some .int, 1) (pX5_beside, 2, 6, 1) [962, 120, 960, 961] = true := by decide +kernel
theorem kX5_eyes : pX5_eyes.all (am_oki am_B (yX5_eyes, cX5_eyes, some .int, 1) am_sites am_nests) = true := by decide +kernel
theorem qX5_eyes : am_okm (yX5_eyes, cX5_eyes, some .int, 1) (pX5_eyes, 3, 3, 1) [974, 120, 972, 973] = true := by decide +kernel
theorem kX5_way : pX5_way.all (am_oki am_B (yX5_way, cX5_way, some .int, 1) am_sites am_nests) = true := by decide +kernel
theorem qX5_way : am_okm (yX5_way, cX5_way, some .int, 1) (pX5_way, 2, 4, 1) [978, 120, 976, 977] = true := by decide +kernel
theorem kX5_house : pX5_house.all (am_oki am_B (yX5_house, cX5_house, some .int, 1) am_sites am_nests) = true := by decide +kernel
theorem qX5_house : am_okm (yX5_house, cX5_house, some .int, 1) (pX5_house, 3, 3, 1) [995, 120, 993, 994] = true := by decide +kernel
theorem kX5_houses : pX5_houses.all (am_oki am_B (yX5_houses, cX5_houses, some .int, 1) am_sites am_nests) = true := by decide +kernel
theorem qX5_houses : am_okm (yX5_houses, cX5_houses, some .int, 1) (pX5_houses, 2, 2, 1) [999, 120, 997, 998] = true := by decide +kernel
theorem kX5_sorts : pX5_sorts.all (am_oki am_B (yX5_sorts, cX5_sorts, some .int, 1) am_sites am_nests) = true := by decide +kernel
theorem qX5_sorts : am_okm (yX5_sorts, cX5_sorts, some .int, 1) (pX5_sorts, 3, 6, 1) [1026, 120, 1024, 1025] = true := by decide +kernel
theorem kX5_curve : pX5_curve.all (am_oki am_B (yX5_curve, cX5_curve, some .int, 1) am_sites am_nests) = true := by decide +kernel
theorem qX5_curve : am_okm (yX5_curve, cX5_curve, some .int, 1) (pX5_curve, 3, 3, 1) [1034, 120, 1032, 1033] = true := by decide +kernel
theorem kX5_score : pX5_score.all (am_oki am_B (yX5_score, cX5_score, some .int, 1) am_sites am_nests) = true := by decide +kernel
theorem qX5_score : am_okm (yX5_score, cX5_score, some .int, 1) (pX5_score, 2, 6, 1) [1046, 120, 1044, 1045] = true := by decide +kernel
theorem kX5_next : pX5_next.all (am_oki am_B (yX5_next, cX5_next, some .int, 1) am_sites am_nests) = true := by decide +kernel
theorem qX5_next : am_okm (yX5_next, cX5_next, some .int, 1) (pX5_next, 6, 10, 1) [1058, 120, 1056, 1057] = true := by decide +kernel
theorem kX5_image : pX5_image.all (am_oki am_B (yX5_image, cX5_image, some .boolean, 1) am_sites am_nests) = true := by decide +kernel
theorem qX5_image : am_okm (yX5_image, cX5_image, some .boolean, 1) (pX5_image, 2, 2, 2) [1066, 120, 1064, 1065] = true := by decide +kernel
theorem kX5_look : pX5_look.all (am_oki am_B (yX5_look, cX5_look, some .int, 1) am_sites am_nests) = true := by decide +kernel
theorem qX5_look : am_okm (yX5_look, cX5_look, some .int, 1) (pX5_look, 2, 2, 1) [1080, 120, 1078, 1079] = true := by decide +kernel
theorem kX5_within : pX5_within.all (am_oki am_B (yX5_within, cX5_within, some .boolean, 0) am_sites am_nests) = true := by decide +kernel
theorem qX5_within : am_okm (yX5_within, cX5_within, some .boolean, 0) (pX5_within, 3, 3, 2) [419, 120, 418, 0] = true := by decide +kernel
theorem kX5_cut : pX5_cut.all (am_oki am_B (yX5_cut, cX5_cut, some .int, 0) am_sites am_nests) = true := by decide +kernel
theorem qX5_cut : am_okm (yX5_cut, cX5_cut, some .int, 0) (pX5_cut, 2, 2, 1) [646, 120, 645, 0] = true := by decide +kernel
theorem kX5_isScene : pX5_isScene.all (am_oki am_B (yX5_isScene, cX5_isScene, some .boolean, 0) am_sites am_nests) = true := by decide +kernel
theorem qX5_isScene : am_okm (yX5_isScene, cX5_isScene, some .boolean, 0) (pX5_isScene, 1, 1, 2) [640, 120, 639, 0] = true := by decide +kernel
theorem kX5_isLaw : pX5_isLaw.all (am_oki am_B (yX5_isLaw, cX5_isLaw, some .boolean, 0) am_sites am_nests) = true := by decide +kernel
theorem qX5_isLaw : am_okm (yX5_isLaw, cX5_isLaw, some .boolean, 0) (pX5_isLaw, 1, 1, 2) [752, 120, 751, 0] = true := by decide +kernel
theorem kX5_isThing : pX5_isThing.all (am_oki am_B (yX5_isThing, cX5_isThing, some .boolean, 0) am_sites am_nests) = true := by decide +kernel
theorem qX5_isThing : am_okm (yX5_isThing, cX5_isThing, some .boolean, 0) (pX5_isThing, 1, 1, 2) [671, 120, 670, 0] = true := by decide +kernel
theorem kX5_isWho : pX5_isWho.all (am_oki am_B (yX5_isWho, cX5_isWho, some .boolean, 0) am_sites am_nests) = true := by decide +kernel
theorem qX5_isWho : am_okm (yX5_isWho, cX5_isWho, some .boolean, 0) (pX5_isWho, 1, 1, 2) [736, 120, 735, 0] = true := by decide +kernel
theorem kX5_isRule : pX5_isRule.all (am_oki am_B (yX5_isRule, cX5_isRule, some .boolean, 0) am_sites am_nests) = true := by decide +kernel
theorem qX5_isRule : am_okm (yX5_isRule, cX5_isRule, some .boolean, 0) (pX5_isRule, 1, 1, 2) [874, 120, 873, 0] = true := by decide +kernel
theorem kX5_isAnswer : pX5_isAnswer.all (am_oki am_B (yX5_isAnswer, cX5_isAnswer, some .boolean, 0) am_sites am_nests) = true := by decide +kernel
theorem qX5_isAnswer : am_okm (yX5_isAnswer, cX5_isAnswer, some .boolean, 0) (pX5_isAnswer, 1, 1, 2) [855, 120, 854, 0] = true := by decide +kernel
theorem kX5_canAsk : pX5_canAsk.all (am_oki am_B (yX5_canAsk, cX5_canAsk, some .boolean, 1) am_sites am_nests) = true := by decide +kernel
theorem qX5_canAsk : am_okm (yX5_canAsk, cX5_canAsk, some .boolean, 1) (pX5_canAsk, 4, 4, 2) [804, 120, 803, 34] = true := by decide +kernel
theorem kX5_lawOf : pX5_lawOf.all (am_oki am_B (yX5_lawOf, cX5_lawOf, some .int, 1) am_sites am_nests) = true := by decide +kernel
theorem qX5_lawOf : am_okm (yX5_lawOf, cX5_lawOf, some .int, 1) (pX5_lawOf, 2, 2, 1) [808, 120, 807, 35] = true := by decide +kernel
theorem kX5_draw : pX5_draw.all (am_oki am_B (yX5_draw, cX5_draw, some .int, 1) am_sites am_nests) = true := by decide +kernel
theorem qX5_draw : am_okm (yX5_draw, cX5_draw, some .int, 1) (pX5_draw, 2, 2, 1) [842, 120, 841, 39] = true := by decide +kernel
theorem kX5_root : pX5_root.all (am_oki am_B (yX5_root, cX5_root, some .int, 0) am_sites am_nests) = true := by decide +kernel
theorem qX5_root : am_okm (yX5_root, cX5_root, some .int, 0) (pX5_root, 1, 2, 1) [957, 120, 956, 0] = true := by decide +kernel
theorem kX5_thousandByRoot : pX5_thousandByRoot.all (am_oki am_B (yX5_thousandByRoot, cX5_thousandByRoot, some .int, 0) am_sites am_nests) = true := by decide +kernel
theorem qX5_thousandByRoot : am_okm (yX5_thousandByRoot, cX5_thousandByRoot, some .int, 0) (pX5_thousandByRoot, 1, 2, 1) [954, 120, 953, 0] = true := by decide +kernel
theorem kX5_play : pX5_play.all (am_oki am_B (yX5_play, cX5_play, none, 1) am_sites am_nests) = true := by decide +kernel
theorem qX5_play : am_okm (yX5_play, cX5_play, none, 1) (pX5_play, 2, 3, 0) [656, 120, 655, 22] = true := by decide +kernel
theorem kX5_settle : pX5_settle.all (am_oki am_B (yX5_settle, cX5_settle, none, 1) am_sites am_nests) = true := by decide +kernel
theorem qX5_settle : am_okm (yX5_settle, cX5_settle, none, 1) (pX5_settle, 2, 3, 0) [719, 120, 718, 31] = true := by decide +kernel
theorem kX5_settleAll : pX5_settleAll.all (am_oki am_B (yX5_settleAll, cX5_settleAll, none, 1) am_sites am_nests) = true := by decide +kernel
theorem qX5_settleAll : am_okm (yX5_settleAll, cX5_settleAll, none, 1) (pX5_settleAll, 2, 3, 0) [652, 120, 651, 21] = true := by decide +kernel
theorem kX5_ruleIn : pX5_ruleIn.all (am_oki am_B (yX5_ruleIn, cX5_ruleIn, some .int, 1) am_sites am_nests) = true := by decide +kernel
theorem qX5_ruleIn : am_okm (yX5_ruleIn, cX5_ruleIn, some .int, 1) (pX5_ruleIn, 4, 6, 1) [724, 120, 723, 32] = true := by decide +kernel
theorem kX5_isTelling : pX5_isTelling.all (am_oki am_B (yX5_isTelling, cX5_isTelling, some .boolean, 1) am_sites am_nests) = true := by decide +kernel
theorem qX5_isTelling : am_okm (yX5_isTelling, cX5_isTelling, some .boolean, 1) (pX5_isTelling, 3, 3, 2) [951, 120, 950, 50] = true := by decide +kernel
theorem kX5_weigh : pX5_weigh.all (am_oki am_B (yX5_weigh, cX5_weigh, none, 1) am_sites am_nests) = true := by decide +kernel
theorem qX5_weigh : am_okm (yX5_weigh, cX5_weigh, none, 1) (pX5_weigh, 5, 5, 0) [812, 120, 811, 36] = true := by decide +kernel
theorem kX5_weighedChance : pX5_weighedChance.all (am_oki am_B (yX5_weighedChance, cX5_weighedChance, some .int, 1) am_sites am_nests) = true := by decide +kernel
theorem qX5_weighedChance : am_okm (yX5_weighedChance, cX5_weighedChance, some .int, 1) (pX5_weighedChance, 3, 7, 1) [867, 120, 866, 40] = true := by decide +kernel
theorem kX5_partedBy : pX5_partedBy.all (am_oki am_B (yX5_partedBy, cX5_partedBy, some .int, 1) am_sites am_nests) = true := by decide +kernel
theorem qX5_partedBy : am_okm (yX5_partedBy, cX5_partedBy, some .int, 1) (pX5_partedBy, 3, 5, 1) [878, 120, 877, 41] = true := by decide +kernel
theorem kX5_listCouples : pX5_listCouples.all (am_oki am_B (yX5_listCouples, cX5_listCouples, some .int, 1) am_sites am_nests) = true := by decide +kernel
theorem qX5_listCouples : am_okm (yX5_listCouples, cX5_listCouples, some .int, 1) (pX5_listCouples, 2, 6, 1) [886, 120, 885, 42] = true := by decide +kernel
theorem kX5_partsAll : pX5_partsAll.all (am_oki am_B (yX5_partsAll, cX5_partsAll, some .boolean, 1) am_sites am_nests) = true := by decide +kernel
theorem qX5_partsAll : am_okm (yX5_partsAll, cX5_partsAll, some .boolean, 1) (pX5_partsAll, 3, 4, 2) [896, 120, 895, 43] = true := by decide +kernel
theorem kX5_actParts : pX5_actParts.all (am_oki am_B (yX5_actParts, cX5_actParts, some .boolean, 1) am_sites am_nests) = true := by decide +kernel
theorem qX5_actParts : am_okm (yX5_actParts, cX5_actParts, some .boolean, 1) (pX5_actParts, 5, 5, 2) [904, 120, 903, 44] = true := by decide +kernel
theorem kX5_firstMove : pX5_firstMove.all (am_oki am_B (yX5_firstMove, cX5_firstMove, some .int, 1) am_sites am_nests) = true := by decide +kernel
theorem qX5_firstMove : am_okm (yX5_firstMove, cX5_firstMove, some .int, 1) (pX5_firstMove, 4, 9, 1) [913, 120, 912, 45] = true := by decide +kernel
theorem kX5_agree : pX5_agree.all (am_oki am_B (yX5_agree, cX5_agree, none, 1) am_sites am_nests) = true := by decide +kernel
theorem qX5_agree : am_okm (yX5_agree, cX5_agree, none, 1) (pX5_agree, 3, 4, 0) [926, 120, 925, 47] = true := by decide +kernel
theorem kX5_countAgreed : pX5_countAgreed.all (am_oki am_B (yX5_countAgreed, cX5_countAgreed, none, 1) am_sites am_nests) = true := by decide +kernel
theorem qX5_countAgreed : am_okm (yX5_countAgreed, cX5_countAgreed, none, 1) (pX5_countAgreed, 2, 4, 0) [921, 120, 920, 46] = true := by decide +kernel
theorem kX5_oddsOf : pX5_oddsOf.all (am_oki am_B (yX5_oddsOf, cX5_oddsOf, some .int, 1) am_sites am_nests) = true := by decide +kernel
theorem qX5_oddsOf : am_okm (yX5_oddsOf, cX5_oddsOf, some .int, 1) (pX5_oddsOf, 2, 5, 1) [934, 120, 933, 49] = true := by decide +kernel
theorem kX5_powerOfNine : pX5_powerOfNine.all (am_oki am_B (yX5_powerOfNine, cX5_powerOfNine, some .long, 0) am_sites am_nests) = true := by decide +kernel
theorem qX5_powerOfNine : am_okm (yX5_powerOfNine, cX5_powerOfNine, some .long, 0) (pX5_powerOfNine, 1, 4, 3) [937, 120, 936, 0] = true := by decide +kernel
theorem kX5_mostAgreed : pX5_mostAgreed.all (am_oki am_B (yX5_mostAgreed, cX5_mostAgreed, some .int, 1) am_sites am_nests) = true := by decide +kernel
theorem qX5_mostAgreed : am_okm (yX5_mostAgreed, cX5_mostAgreed, some .int, 1) (pX5_mostAgreed, 1, 3, 1) [930, 120, 929, 48] = true := by decide +kernel
theorem kX5_itsRule : pX5_itsRule.all (am_oki am_B (yX5_itsRule, cX5_itsRule, some .int, 1) am_sites am_nests) = true := by decide +kernel
theorem qX5_itsRule : am_okm (yX5_itsRule, cX5_itsRule, some .int, 1) (pX5_itsRule, 2, 2, 1) [1030, 120, 1029, 59] = true := by decide +kernel
theorem kX5_lastRight : pX5_lastRight.all (am_oki am_B (yX5_lastRight, cX5_lastRight, some .int, 1) am_sites am_nests) = true := by decide +kernel
theorem qX5_lastRight : am_okm (yX5_lastRight, cX5_lastRight, some .int, 1) (pX5_lastRight, 3, 5, 1) [966, 120, 965, 51] = true := by decide +kernel
theorem kX5_isRight : pX5_isRight.all (am_oki am_B (yX5_isRight, cX5_isRight, some .boolean, 1) am_sites am_nests) = true := by decide +kernel
theorem qX5_isRight : am_okm (yX5_isRight, cX5_isRight, some .boolean, 1) (pX5_isRight, 2, 2, 2) [970, 120, 969, 52] = true := by decide +kernel
theorem kX5_isLong : pX5_isLong.all (am_oki am_B (yX5_isLong, cX5_isLong, some .boolean, 1) am_sites am_nests) = true := by decide +kernel
