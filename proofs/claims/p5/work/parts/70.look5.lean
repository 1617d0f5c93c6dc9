theorem qX6_unlikeBehind : am_okm (yX6_unlikeBehind, cX6_unlikeBehind, some .boolean, 1) (pX6_unlikeBehind, 8, 8, 2) [1529, 127, 1528, 108] = true := by decide +kernel
theorem kX6_make : pX6_make.all (am_oki am_B (yX6_make, cX6_make, some .int, 1) am_sites am_nests) = true := by decide +kernel
theorem qX6_make : am_okm (yX6_make, cX6_make, some .int, 1) (pX6_make, 4, 5, 1) [1525, 127, 1523, 1524] = true := by decide +kernel
theorem kX6_multiplies : pX6_multiplies.all (am_oki am_B (yX6_multiplies, cX6_multiplies, none, 1) am_sites am_nests) = true := by decide +kernel
theorem qX6_multiplies : am_okm (yX6_multiplies, cX6_multiplies, none, 1) (pX6_multiplies, 2, 5, 0) [1541, 127, 1540, 110] = true := by decide +kernel
theorem kX6_oddsNow : pX6_oddsNow.all (am_oki am_B (yX6_oddsNow, cX6_oddsNow, some .int, 1) am_sites am_nests) = true := by decide +kernel
theorem qX6_oddsNow : am_okm (yX6_oddsNow, cX6_oddsNow, some .int, 1) (pX6_oddsNow, 2, 5, 1) [1546, 127, 1545, 111] = true := by decide +kernel
theorem kX6_itsRule : pX6_itsRule.all (am_oki am_B (yX6_itsRule, cX6_itsRule, some .int, 1) am_sites am_nests) = true := by decide +kernel
theorem qX6_itsRule : am_okm (yX6_itsRule, cX6_itsRule, some .int, 1) (pX6_itsRule, 2, 4, 1) [1537, 127, 1536, 109] = true := by decide +kernel
theorem kX6_odds : pX6_odds.all (am_oki am_B (yX6_odds, cX6_odds, some .int, 1) am_sites am_nests) = true := by decide +kernel
theorem qX6_odds : am_okm (yX6_odds, cX6_odds, some .int, 1) (pX6_odds, 3, 3, 1) [1533, 127, 1531, 1532] = true := by decide +kernel
theorem kX6_need : pX6_need.all (am_oki am_B (yX6_need, cX6_need, some .int, 1) am_sites am_nests) = true := by decide +kernel
theorem qX6_need : am_okm (yX6_need, cX6_need, some .int, 1) (pX6_need, 3, 6, 1) [1551, 127, 1549, 1550] = true := by decide +kernel
theorem kX6_isTelling : pX6_isTelling.all (am_oki am_B (yX6_isTelling, cX6_isTelling, some .boolean, 1) am_sites am_nests) = true := by decide +kernel
theorem qX6_isTelling : am_okm (yX6_isTelling, cX6_isTelling, some .boolean, 1) (pX6_isTelling, 2, 2, 2) [1559, 127, 1558, 112] = true := by decide +kernel
theorem kX6_pulls : pX6_pulls.all (am_oki am_B (yX6_pulls, cX6_pulls, some .int, 1) am_sites am_nests) = true := by decide +kernel
theorem qX6_pulls : am_okm (yX6_pulls, cX6_pulls, some .int, 1) (pX6_pulls, 3, 8, 1) [1555, 127, 1553, 1554] = true := by decide +kernel
theorem kX6_passes : pX6_passes.all (am_oki am_B (yX6_passes, cX6_passes, some .int, 1) am_sites am_nests) = true := by decide +kernel
theorem qX6_passes : am_okm (yX6_passes, cX6_passes, some .int, 1) (pX6_passes, 3, 6, 1) [1570, 127, 1569, 113] = true := by decide +kernel
theorem kX6_beside : pX6_beside.all (am_oki am_B (yX6_beside, cX6_beside, some .int, 1) am_sites am_nests) = true := by decide +kernel
theorem qX6_beside : am_okm (yX6_beside, cX6_beside, some .int, 1) (pX6_beside, 2, 5, 1) [1566, 127, 1564, 1565] = true := by decide +kernel
theorem kX6_eyes : pX6_eyes.all (am_oki am_B (yX6_eyes, cX6_eyes, some .int, 1) am_sites am_nests) = true := by decide +kernel
theorem qX6_eyes : am_okm (yX6_eyes, cX6_eyes, some .int, 1) (pX6_eyes, 3, 3, 1) [1574, 127, 1572, 1573] = true := by decide +kernel
theorem kX6_isRare : pX6_isRare.all (am_oki am_B (yX6_isRare, cX6_isRare, some .boolean, 1) am_sites am_nests) = true := by decide +kernel
theorem qX6_isRare : am_okm (yX6_isRare, cX6_isRare, some .boolean, 1) (pX6_isRare, 3, 6, 2) [1586, 127, 1585, 115] = true := by decide +kernel
theorem kX6_isLong : pX6_isLong.all (am_oki am_B (yX6_isLong, cX6_isLong, some .boolean, 1) am_sites am_nests) = true := by decide +kernel
theorem qX6_isLong : am_okm (yX6_isLong, cX6_isLong, some .boolean, 1) (pX6_isLong, 2, 11, 2) [1582, 127, 1581, 114] = true := by decide +kernel
theorem kX6_way : pX6_way.all (am_oki am_B (yX6_way, cX6_way, some .int, 1) am_sites am_nests) = true := by decide +kernel
theorem qX6_way : am_okm (yX6_way, cX6_way, some .int, 1) (pX6_way, 2, 4, 1) [1578, 127, 1576, 1577] = true := by decide +kernel
theorem kX6_house : pX6_house.all (am_oki am_B (yX6_house, cX6_house, some .int, 1) am_sites am_nests) = true := by decide +kernel
theorem qX6_house : am_okm (yX6_house, cX6_house, some .int, 1) (pX6_house, 3, 3, 1) [1591, 127, 1589, 1590] = true := by decide +kernel
theorem kX6_share : pX6_share.all (am_oki am_B (yX6_share, cX6_share, some .int, 1) am_sites am_nests) = true := by decide +kernel
theorem qX6_share : am_okm (yX6_share, cX6_share, some .int, 1) (pX6_share, 2, 2, 1) [1599, 127, 1598, 116] = true := by decide +kernel
theorem kX6_houses : pX6_houses.all (am_oki am_B (yX6_houses, cX6_houses, some .int, 1) am_sites am_nests) = true := by decide +kernel
theorem qX6_houses : am_okm (yX6_houses, cX6_houses, some .int, 1) (pX6_houses, 2, 12, 1) [1595, 127, 1593, 1594] = true := by decide +kernel
theorem kX6_sorts : pX6_sorts.all (am_oki am_B (yX6_sorts, cX6_sorts, some .int, 1) am_sites am_nests) = true := by decide +kernel
theorem qX6_sorts : am_okm (yX6_sorts, cX6_sorts, some .int, 1) (pX6_sorts, 3, 5, 1) [1606, 127, 1604, 1605] = true := by decide +kernel
theorem kX6_curves : pX6_curves.all (am_oki am_B (yX6_curves, cX6_curves, none, 1) am_sites am_nests) = true := by decide +kernel
theorem qX6_curves : am_okm (yX6_curves, cX6_curves, none, 1) (pX6_curves, 2, 3, 0) [1614, 127, 1613, 117] = true := by decide +kernel
theorem kX6_curve : pX6_curve.all (am_oki am_B (yX6_curve, cX6_curve, some .int, 1) am_sites am_nests) = true := by decide +kernel
theorem qX6_curve : am_okm (yX6_curve, cX6_curve, some .int, 1) (pX6_curve, 3, 5, 1) [1610, 127, 1608, 1609] = true := by decide +kernel
theorem kX6_level : pX6_level.all (am_oki am_B (yX6_level, cX6_level, some .int, 0) am_sites am_nests) = true := by decide +kernel
theorem qX6_level : am_okm (yX6_level, cX6_level, some .int, 0) (pX6_level, 1, 2, 1) [1625, 127, 1624, 0] = true := by decide +kernel
theorem kX6_scoreOf : pX6_scoreOf.all (am_oki am_B (yX6_scoreOf, cX6_scoreOf, some .int, 1) am_sites am_nests) = true := by decide +kernel
theorem qX6_scoreOf : am_okm (yX6_scoreOf, cX6_scoreOf, some .int, 1) (pX6_scoreOf, 2, 4, 1) [1622, 127, 1621, 118] = true := by decide +kernel
theorem kX6_score : pX6_score.all (am_oki am_B (yX6_score, cX6_score, some .int, 1) am_sites am_nests) = true := by decide +kernel
theorem qX6_score : am_okm (yX6_score, cX6_score, some .int, 1) (pX6_score, 2, 6, 1) [1618, 127, 1616, 1617] = true := by decide +kernel
theorem kX6_next : pX6_next.all (am_oki am_B (yX6_next, cX6_next, some .int, 1) am_sites am_nests) = true := by decide +kernel
theorem qX6_next : am_okm (yX6_next, cX6_next, some .int, 1) (pX6_next, 6, 11, 1) [1630, 127, 1628, 1629] = true := by decide +kernel
theorem kX6_image : pX6_image.all (am_oki am_B (yX6_image, cX6_image, some .boolean, 1) am_sites am_nests) = true := by decide +kernel
theorem qX6_image : am_okm (yX6_image, cX6_image, some .boolean, 1) (pX6_image, 2, 3, 2) [1634, 127, 1632, 1633] = true := by decide +kernel
theorem kX6_look : pX6_look.all (am_oki am_B (yX6_look, cX6_look, some .int, 1) am_sites am_nests) = true := by decide +kernel
theorem qX6_look : am_okm (yX6_look, cX6_look, some .int, 1) (pX6_look, 2, 2, 1) [1638, 127, 1636, 1637] = true := by decide +kernel
theorem kJ0_length_8abf5 : pJ0_length_8abf5.all (am_oki am_B (yJ0_length_8abf5, cJ0_length_8abf5, some .int, 1) am_sites am_nests) = true := by decide +kernel
theorem qJ0_length_8abf5 : am_okm (yJ0_length_8abf5, cJ0_length_8abf5, some .int, 1) (pJ0_length_8abf5, 1, 1, 1) [454, 128, 452, 453] = true := by decide +kernel
theorem kJ0_charAt_5068e : pJ0_charAt_5068e.all (am_oki am_B (yJ0_charAt_5068e, cJ0_charAt_5068e, some .char, 1) am_sites am_nests) = true := by decide +kernel
theorem qJ0_charAt_5068e : am_okm (yJ0_charAt_5068e, cJ0_charAt_5068e, some .char, 1) (pJ0_charAt_5068e, 2, 2, 4) [464, 128, 462, 463] = true := by decide +kernel
theorem kJ0_indexOf_0f7a4 : pJ0_indexOf_0f7a4.all (am_oki am_B (yJ0_indexOf_0f7a4, cJ0_indexOf_0f7a4, some .int, 1) am_sites am_nests) = true := by decide +kernel
theorem qJ0_indexOf_0f7a4 : am_okm (yJ0_indexOf_0f7a4, cJ0_indexOf_0f7a4, some .int, 1) (pJ0_indexOf_0f7a4, 2, 2, 1) [507, 128, 505, 506] = true := by decide +kernel
theorem kJ0_indexOf_7cf53 : pJ0_indexOf_7cf53.all (am_oki am_B (yJ0_indexOf_7cf53, cJ0_indexOf_7cf53, some .int, 1) am_sites am_nests) = true := by decide +kernel
theorem qJ0_indexOf_7cf53 : am_okm (yJ0_indexOf_7cf53, cJ0_indexOf_7cf53, some .int, 1) (pJ0_indexOf_7cf53, 3, 3, 1) [511, 128, 509, 510] = true := by decide +kernel
theorem kJ0_coder_7d493 : pJ0_coder_7d493.all (am_oki am_B (yJ0_coder_7d493, cJ0_coder_7d493, some .byte, 1) am_sites am_nests) = true := by decide +kernel
theorem qJ0_coder_7d493 : am_okm (yJ0_coder_7d493, cJ0_coder_7d493, some .byte, 1) (pJ0_coder_7d493, 1, 1, 5) [458, 128, 456, 457] = true := by decide +kernel
theorem kJ0_isLatin1_aae02 : pJ0_isLatin1_aae02.all (am_oki am_B (yJ0_isLatin1_aae02, cJ0_isLatin1_aae02, some .boolean, 1) am_sites am_nests) = true := by decide +kernel
theorem qJ0_isLatin1_aae02 : am_okm (yJ0_isLatin1_aae02, cJ0_isLatin1_aae02, some .boolean, 1) (pJ0_isLatin1_aae02, 1, 1, 2) [468, 128, 466, 467] = true := by decide +kernel
theorem kJ0_checkIndex_df160 : pJ0_checkIndex_df160.all (am_oki am_B (yJ0_checkIndex_df160, cJ0_checkIndex_df160, none, 0) am_sites am_nests) = true := by decide +kernel
theorem qJ0_checkIndex_df160 : am_okm (yJ0_checkIndex_df160, cJ0_checkIndex_df160, none, 0) (pJ0_checkIndex_df160, 2, 2, 0) [474, 128, 473, 0] = true := by decide +kernel
theorem kJ1_charAt_3b067 : pJ1_charAt_3b067.all (am_oki am_B (yJ1_charAt_3b067, cJ1_charAt_3b067, some .char, 0) am_sites am_nests) = true := by decide +kernel
theorem qJ1_charAt_3b067 : am_okm (yJ1_charAt_3b067, cJ1_charAt_3b067, some .char, 0) (pJ1_charAt_3b067, 2, 2, 4) [471, 129, 470, 0] = true := by decide +kernel
theorem kJ1_canEncode_9a6ad : pJ1_canEncode_9a6ad.all (am_oki am_B (yJ1_canEncode_9a6ad, cJ1_canEncode_9a6ad, some .boolean, 0) am_sites am_nests) = true := by decide +kernel
theorem qJ1_canEncode_9a6ad : am_okm (yJ1_canEncode_9a6ad, cJ1_canEncode_9a6ad, some .boolean, 0) (pJ1_canEncode_9a6ad, 1, 1, 2) [518, 129, 517, 0] = true := by decide +kernel
theorem kJ1_indexOf_4cfef : pJ1_indexOf_4cfef.all (am_oki am_B (yJ1_indexOf_4cfef, cJ1_indexOf_4cfef, some .int, 0) am_sites am_nests) = true := by decide +kernel
theorem qJ1_indexOf_4cfef : am_okm (yJ1_indexOf_4cfef, cJ1_indexOf_4cfef, some .int, 0) (pJ1_indexOf_4cfef, 4, 4, 1) [515, 129, 514, 0] = true := by decide +kernel
theorem kJ1_indexOfChar_4cfef : pJ1_indexOfChar_4cfef.all (am_oki am_B (yJ1_indexOfChar_4cfef, cJ1_indexOfChar_4cfef, some .int, 0) am_sites am_nests) = true := by decide +kernel
theorem qJ1_indexOfChar_4cfef : am_okm (yJ1_indexOfChar_4cfef, cJ1_indexOfChar_4cfef, some .int, 0) (pJ1_indexOfChar_4cfef, 4, 6, 1) [525, 129, 524, 0] = true := by decide +kernel
theorem kJ3_checkIndex_8e157 : pJ3_checkIndex_8e157.all (am_oki am_B (yJ3_checkIndex_8e157, cJ3_checkIndex_8e157, some .int, 0) am_sites am_nests) = true := by decide +kernel
theorem qJ3_checkIndex_8e157 : am_okm (yJ3_checkIndex_8e157, cJ3_checkIndex_8e157, some .int, 0) (pJ3_checkIndex_8e157, 3, 3, 1) [479, 130, 478, 0] = true := by decide +kernel
theorem kJ7_fill_53178 : pJ7_fill_53178.all (am_oki am_B (yJ7_fill_53178, cJ7_fill_53178, none, 0) am_sites am_nests) = true := by decide +kernel
theorem qJ7_fill_53178 : am_okm (yJ7_fill_53178, cJ7_fill_53178, none, 0) (pJ7_fill_53178, 2, 4, 0) [663, 134, 662, 0] = true := by decide +kernel
theorem kJ6_bitCount_0f7a4 : pJ6_bitCount_0f7a4.all (am_oki am_B (yJ6_bitCount_0f7a4, cJ6_bitCount_0f7a4, some .int, 0) am_sites am_nests) = true := by decide +kernel
theorem qJ6_bitCount_0f7a4 : am_okm (yJ6_bitCount_0f7a4, cJ6_bitCount_0f7a4, some .int, 0) (pJ6_bitCount_0f7a4, 1, 1, 1) [889, 135, 888, 0] = true := by decide +kernel
theorem kJ9_floorMod_7cf53 : pJ9_floorMod_7cf53.all (am_oki am_B (yJ9_floorMod_7cf53, cJ9_floorMod_7cf53, some .int, 0) am_sites am_nests) = true := by decide +kernel
theorem qJ9_floorMod_7cf53 : am_okm (yJ9_floorMod_7cf53, cJ9_floorMod_7cf53, some .int, 0) (pJ9_floorMod_7cf53, 2, 3, 1) [987, 123, 986, 0] = true := by decide +kernel
theorem kJ9_abs_0f7a4 : pJ9_abs_0f7a4.all (am_oki am_B (yJ9_abs_0f7a4, cJ9_abs_0f7a4, some .int, 0) am_sites am_nests) = true := by decide +kernel
theorem qJ9_abs_0f7a4 : am_okm (yJ9_abs_0f7a4, cJ9_abs_0f7a4, some .int, 0) (pJ9_abs_0f7a4, 1, 1, 1) [1018, 123, 1017, 0] = true := by decide +kernel
theorem kJ9_max_7cf53 : pJ9_max_7cf53.all (am_oki am_B (yJ9_max_7cf53, cJ9_max_7cf53, some .int, 0) am_sites am_nests) = true := by decide +kernel
theorem qJ9_max_7cf53 : am_okm (yJ9_max_7cf53, cJ9_max_7cf53, some .int, 0) (pJ9_max_7cf53, 2, 2, 1) [158, 123, 157, 0] = true := by decide +kernel
theorem kJ9_min_7cf53 : pJ9_min_7cf53.all (am_oki am_B (yJ9_min_7cf53, cJ9_min_7cf53, some .int, 0) am_sites am_nests) = true := by decide +kernel
theorem qJ9_min_7cf53 : am_okm (yJ9_min_7cf53, cJ9_min_7cf53, some .int, 0) (pJ9_min_7cf53, 2, 2, 1) [522, 123, 521, 0] = true := by decide +kernel
