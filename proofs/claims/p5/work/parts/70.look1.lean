theorem qX3_give : am_okm (yX3_give, cX3_give, none, 1) (pX3_give, 3, 3, 0) [816, 126, 814, 815] = true := by decide +kernel
theorem kX3_weigh : pX3_weigh.all (am_oki am_B (yX3_weigh, cX3_weigh, none, 1) am_sites am_nests) = true := by decide +kernel
theorem qX3_weigh : am_okm (yX3_weigh, cX3_weigh, none, 1) (pX3_weigh, 3, 4, 0) [820, 126, 818, 819] = true := by decide +kernel
theorem kX3_ruleOf : pX3_ruleOf.all (am_oki am_B (yX3_ruleOf, cX3_ruleOf, some .int, 1) am_sites am_nests) = true := by decide +kernel
theorem qX3_ruleOf : am_okm (yX3_ruleOf, cX3_ruleOf, some .int, 1) (pX3_ruleOf, 2, 4, 1) [848, 126, 846, 847] = true := by decide +kernel
theorem kX3_amountOf : pX3_amountOf.all (am_oki am_B (yX3_amountOf, cX3_amountOf, some .int, 1) am_sites am_nests) = true := by decide +kernel
theorem qX3_amountOf : am_okm (yX3_amountOf, cX3_amountOf, some .int, 1) (pX3_amountOf, 5, 10, 1) [824, 126, 823, 37] = true := by decide +kernel
theorem kX3_run : pX3_run.all (am_oki am_B (yX3_run, cX3_run, some .int, 1) am_sites am_nests) = true := by decide +kernel
theorem qX3_run : am_okm (yX3_run, cX3_run, some .int, 1) (pX3_run, 5, 9, 1) [829, 126, 828, 38] = true := by decide +kernel
theorem kX3_worked : pX3_worked.all (am_oki am_B (yX3_worked, cX3_worked, some .int, 0) am_sites am_nests) = true := by decide +kernel
theorem qX3_worked : am_okm (yX3_worked, cX3_worked, some .int, 0) (pX3_worked, 3, 3, 1) [832, 126, 831, 0] = true := by decide +kernel
theorem kX4_init : pX4_init.all (am_oki am_B (yX4_init, cX4_init, none, 2) am_sites am_nests) = true := by decide +kernel
theorem qX4_init : am_okm (yX4_init, cX4_init, none, 2) (pX4_init, 1, 1, 0) [280, 125, 279, 0] = true := by decide +kernel
theorem kX4_begin : pX4_begin.all (am_oki am_B (yX4_begin, cX4_begin, none, 1) am_sites am_nests) = true := by decide +kernel
theorem qX4_begin : am_okm (yX4_begin, cX4_begin, none, 1) (pX4_begin, 1, 1, 0) [660, 125, 658, 659] = true := by decide +kernel
theorem kX4_copyFrom : pX4_copyFrom.all (am_oki am_B (yX4_copyFrom, cX4_copyFrom, none, 1) am_sites am_nests) = true := by decide +kernel
theorem qX4_copyFrom : am_okm (yX4_copyFrom, cX4_copyFrom, none, 1) (pX4_copyFrom, 2, 2, 0) [908, 125, 906, 907] = true := by decide +kernel
theorem kX4_act : pX4_act.all (am_oki am_B (yX4_act, cX4_act, none, 1) am_sites am_nests) = true := by decide +kernel
theorem qX4_act : am_okm (yX4_act, cX4_act, none, 1) (pX4_act, 2, 6, 0) [668, 125, 666, 667] = true := by decide +kernel
theorem kX4_canSee : pX4_canSee.all (am_oki am_B (yX4_canSee, cX4_canSee, some .boolean, 1) am_sites am_nests) = true := by decide +kernel
theorem qX4_canSee : am_okm (yX4_canSee, cX4_canSee, some .boolean, 1) (pX4_canSee, 2, 2, 2) [679, 125, 677, 678] = true := by decide +kernel
theorem kX4_seemsToSee : pX4_seemsToSee.all (am_oki am_B (yX4_seemsToSee, cX4_seemsToSee, some .boolean, 1) am_sites am_nests) = true := by decide +kernel
theorem qX4_seemsToSee : am_okm (yX4_seemsToSee, cX4_seemsToSee, some .boolean, 1) (pX4_seemsToSee, 3, 4, 2) [687, 125, 686, 25] = true := by decide +kernel
theorem kX4_wear : pX4_wear.all (am_oki am_B (yX4_wear, cX4_wear, none, 1) am_sites am_nests) = true := by decide +kernel
theorem qX4_wear : am_okm (yX4_wear, cX4_wear, none, 1) (pX4_wear, 3, 3, 0) [703, 125, 702, 29] = true := by decide +kernel
theorem kX4_snap : pX4_snap.all (am_oki am_B (yX4_snap, cX4_snap, none, 1) am_sites am_nests) = true := by decide +kernel
theorem qX4_snap : am_okm (yX4_snap, cX4_snap, none, 1) (pX4_snap, 2, 3, 0) [707, 125, 706, 30] = true := by decide +kernel
theorem kX4_bring : pX4_bring.all (am_oki am_B (yX4_bring, cX4_bring, none, 1) am_sites am_nests) = true := by decide +kernel
theorem qX4_bring : am_okm (yX4_bring, cX4_bring, none, 1) (pX4_bring, 5, 7, 0) [675, 125, 674, 23] = true := by decide +kernel
theorem kX4_see : pX4_see.all (am_oki am_B (yX4_see, cX4_see, none, 1) am_sites am_nests) = true := by decide +kernel
theorem qX4_see : am_okm (yX4_see, cX4_see, none, 1) (pX4_see, 5, 7, 0) [683, 125, 682, 24] = true := by decide +kernel
theorem kX4_inform : pX4_inform.all (am_oki am_B (yX4_inform, cX4_inform, none, 1) am_sites am_nests) = true := by decide +kernel
theorem qX4_inform : am_okm (yX4_inform, cX4_inform, none, 1) (pX4_inform, 5, 6, 0) [691, 125, 690, 26] = true := by decide +kernel
theorem kX4_lift : pX4_lift.all (am_oki am_B (yX4_lift, cX4_lift, none, 1) am_sites am_nests) = true := by decide +kernel
theorem qX4_lift : am_okm (yX4_lift, cX4_lift, none, 1) (pX4_lift, 3, 6, 0) [695, 125, 694, 27] = true := by decide +kernel
theorem kX4_watchLift : pX4_watchLift.all (am_oki am_B (yX4_watchLift, cX4_watchLift, none, 1) am_sites am_nests) = true := by decide +kernel
theorem qX4_watchLift : am_okm (yX4_watchLift, cX4_watchLift, none, 1) (pX4_watchLift, 5, 6, 0) [699, 125, 698, 28] = true := by decide +kernel
theorem kX4_allMoves : pX4_allMoves.all (am_oki am_B (yX4_allMoves, cX4_allMoves, some .int, 1) am_sites am_nests) = true := by decide +kernel
theorem qX4_allMoves : am_okm (yX4_allMoves, cX4_allMoves, some .int, 1) (pX4_allMoves, 1, 1, 1) [745, 125, 743, 744] = true := by decide +kernel
theorem kX4_ofLook : pX4_ofLook.all (am_oki am_B (yX4_ofLook, cX4_ofLook, some .int, 1) am_sites am_nests) = true := by decide +kernel
theorem qX4_ofLook : am_okm (yX4_ofLook, cX4_ofLook, some .int, 1) (pX4_ofLook, 5, 7, 1) [733, 125, 731, 732] = true := by decide +kernel
theorem kX4_ofPicture : pX4_ofPicture.all (am_oki am_B (yX4_ofPicture, cX4_ofPicture, some .int, 1) am_sites am_nests) = true := by decide +kernel
theorem qX4_ofPicture : am_okm (yX4_ofPicture, cX4_ofPicture, some .int, 1) (pX4_ofPicture, 4, 4, 1) [728, 125, 726, 727] = true := by decide +kernel
theorem kX5_init : pX5_init.all (am_oki am_B (yX5_init, cX5_init, none, 2) am_sites am_nests) = true := by decide +kernel
theorem qX5_init : am_okm (yX5_init, cX5_init, none, 2) (pX5_init, 1, 1, 0) [140, 120, 139, 0] = true := by decide +kernel
theorem kX5_state : pX5_state.all (am_oki am_B (yX5_state, cX5_state, some .int, 1) am_sites am_nests) = true := by decide +kernel
theorem qX5_state : am_okm (yX5_state, cX5_state, some .int, 1) (pX5_state, 2, 3, 1) [392, 120, 390, 391] = true := by decide +kernel
theorem kX5_feed : pX5_feed.all (am_oki am_B (yX5_feed, cX5_feed, some .int, 1) am_sites am_nests) = true := by decide +kernel
theorem qX5_feed : am_okm (yX5_feed, cX5_feed, some .int, 1) (pX5_feed, 6, 6, 1) [396, 120, 394, 395] = true := by decide +kernel
theorem kX5_end : pX5_end.all (am_oki am_B (yX5_end, cX5_end, some .boolean, 1) am_sites am_nests) = true := by decide +kernel
theorem qX5_end : am_okm (yX5_end, cX5_end, some .boolean, 1) (pX5_end, 2, 2, 2) [408, 120, 406, 407] = true := by decide +kernel
theorem kX5_text : pX5_text.all (am_oki am_B (yX5_text, cX5_text, some .int, 1) am_sites am_nests) = true := by decide +kernel
theorem qX5_text : am_okm (yX5_text, cX5_text, some .int, 1) (pX5_text, 3, 6, 1) [416, 120, 414, 415] = true := by decide +kernel
theorem kX5_fault : pX5_fault.all (am_oki am_B (yX5_fault, cX5_fault, some .int, 1) am_sites am_nests) = true := by decide +kernel
theorem qX5_fault : am_okm (yX5_fault, cX5_fault, some .int, 1) (pX5_fault, 2, 2, 1) [756, 120, 754, 755] = true := by decide +kernel
theorem kX5_after : pX5_after.all (am_oki am_B (yX5_after, cX5_after, some .int, 1) am_sites am_nests) = true := by decide +kernel
theorem qX5_after : am_okm (yX5_after, cX5_after, some .int, 1) (pX5_after, 5, 6, 1) [760, 120, 758, 759] = true := by decide +kernel
theorem kX5_thinks : pX5_thinks.all (am_oki am_B (yX5_thinks, cX5_thinks, some .int, 1) am_sites am_nests) = true := by decide +kernel
theorem qX5_thinks : am_okm (yX5_thinks, cX5_thinks, some .int, 1) (pX5_thinks, 5, 5, 1) [766, 120, 764, 765] = true := by decide +kernel
theorem kX5_here : pX5_here.all (am_oki am_B (yX5_here, cX5_here, some .int, 1) am_sites am_nests) = true := by decide +kernel
theorem qX5_here : am_okm (yX5_here, cX5_here, some .int, 1) (pX5_here, 4, 4, 1) [770, 120, 768, 769] = true := by decide +kernel
theorem kX5_question : pX5_question.all (am_oki am_B (yX5_question, cX5_question, some .int, 1) am_sites am_nests) = true := by decide +kernel
theorem qX5_question : am_okm (yX5_question, cX5_question, some .int, 1) (pX5_question, 6, 9, 1) [775, 120, 773, 774] = true := by decide +kernel
theorem kX5_says : pX5_says.all (am_oki am_B (yX5_says, cX5_says, some .int, 1) am_sites am_nests) = true := by decide +kernel
theorem qX5_says : am_okm (yX5_says, cX5_says, some .int, 1) (pX5_says, 3, 3, 1) [791, 120, 789, 790] = true := by decide +kernel
theorem kX5_child : pX5_child.all (am_oki am_B (yX5_child, cX5_child, some .int, 1) am_sites am_nests) = true := by decide +kernel
theorem qX5_child : am_okm (yX5_child, cX5_child, some .int, 1) (pX5_child, 5, 5, 1) [795, 120, 793, 794] = true := by decide +kernel
theorem kX5_weight : pX5_weight.all (am_oki am_B (yX5_weight, cX5_weight, some .int, 1) am_sites am_nests) = true := by decide +kernel
theorem qX5_weight : am_okm (yX5_weight, cX5_weight, some .int, 1) (pX5_weight, 5, 5, 1) [800, 120, 798, 799] = true := by decide +kernel
theorem kX5_ask : pX5_ask.all (am_oki am_B (yX5_ask, cX5_ask, some .int, 1) am_sites am_nests) = true := by decide +kernel
theorem qX5_ask : am_okm (yX5_ask, cX5_ask, some .int, 1) (pX5_ask, 4, 7, 1) [837, 120, 835, 836] = true := by decide +kernel
theorem kX5_told : pX5_told.all (am_oki am_B (yX5_told, cX5_told, some .int, 1) am_sites am_nests) = true := by decide +kernel
theorem qX5_told : am_okm (yX5_told, cX5_told, some .int, 1) (pX5_told, 5, 5, 1) [852, 120, 850, 851] = true := by decide +kernel
theorem kX5_answer : pX5_answer.all (am_oki am_B (yX5_answer, cX5_answer, some .int, 1) am_sites am_nests) = true := by decide +kernel
theorem qX5_answer : am_okm (yX5_answer, cX5_answer, some .int, 1) (pX5_answer, 3, 3, 1) [859, 120, 857, 858] = true := by decide +kernel
theorem kX5_chance : pX5_chance.all (am_oki am_B (yX5_chance, cX5_chance, some .int, 1) am_sites am_nests) = true := by decide +kernel
theorem qX5_chance : am_okm (yX5_chance, cX5_chance, some .int, 1) (pX5_chance, 6, 6, 1) [863, 120, 861, 862] = true := by decide +kernel
theorem kX5_parted : pX5_parted.all (am_oki am_B (yX5_parted, cX5_parted, some .int, 1) am_sites am_nests) = true := by decide +kernel
theorem qX5_parted : am_okm (yX5_parted, cX5_parted, some .int, 1) (pX5_parted, 3, 3, 1) [871, 120, 869, 870] = true := by decide +kernel
theorem kX5_fewest : pX5_fewest.all (am_oki am_B (yX5_fewest, cX5_fewest, some .int, 1) am_sites am_nests) = true := by decide +kernel
theorem qX5_fewest : am_okm (yX5_fewest, cX5_fewest, some .int, 1) (pX5_fewest, 2, 6, 1) [882, 120, 880, 881] = true := by decide +kernel
theorem kX5_make : pX5_make.all (am_oki am_B (yX5_make, cX5_make, some .int, 1) am_sites am_nests) = true := by decide +kernel
theorem qX5_make : am_okm (yX5_make, cX5_make, some .int, 1) (pX5_make, 4, 6, 1) [900, 120, 898, 899] = true := by decide +kernel
theorem kX5_odds : pX5_odds.all (am_oki am_B (yX5_odds, cX5_odds, some .int, 1) am_sites am_nests) = true := by decide +kernel
theorem qX5_odds : am_okm (yX5_odds, cX5_odds, some .int, 1) (pX5_odds, 3, 3, 1) [917, 120, 915, 916] = true := by decide +kernel
theorem kX5_need : pX5_need.all (am_oki am_B (yX5_need, cX5_need, some .int, 1) am_sites am_nests) = true := by decide +kernel
theorem qX5_need : am_okm (yX5_need, cX5_need, some .int, 1) (pX5_need, 3, 4, 1) [943, 120, 941, 942] = true := by decide +kernel
theorem kX5_pulls : pX5_pulls.all (am_oki am_B (yX5_pulls, cX5_pulls, some .int, 1) am_sites am_nests) = true := by decide +kernel
theorem qX5_pulls : am_okm (yX5_pulls, cX5_pulls, some .int, 1) (pX5_pulls, 3, 8, 1) [947, 120, 945, 946] = true := by decide +kernel
