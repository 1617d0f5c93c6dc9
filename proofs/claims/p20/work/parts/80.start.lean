theorem kL_law : pL_law.all (am_oki am_B am_Lb am_sites am_nests) = true := by
  unfold pL_law
  simp only [List.all_append, List.all_nil, kL_0, kL_1, kL_2, kL_3, kL_4, kL_5, kL_6, kL_7, kL_8, kL_9, kL_10, kL_11, kL_12, kL_13, kL_14, kL_15, kL_16, kL_17, kL_18, kL_19, kL_20, kL_21, kL_22, Bool.and_self]
def HPL : List am_N → List am_M → Prop
  | [], _ => True
  | _ :: _, [] => False
  | b :: bs, m :: ms => (∃ ps, am_okm b m ps = true ∧ am_HI am_B am_sites am_nests b m) ∧ HPL bs ms
theorem HPL_n {ms : List am_M} : HPL [] ms := trivial
theorem HPL_c {b : am_N} {bs : List am_N} {m : am_M} {ms : List am_M} (h1 : ∃ ps, am_okm b m ps = true ∧ am_HI am_B am_sites am_nests b m) (h2 : HPL bs ms) : HPL (b :: bs) (m :: ms) := ⟨h1, h2⟩
theorem HPL_at : ∀ (bs : List am_N) (ms : List am_M) (i : Nat) (b : am_N), HPL bs ms → bs[i]? = some b → ∃ mt ps, ms[i]? = some mt ∧ am_okm b mt ps = true ∧ am_HI am_B am_sites am_nests b mt
  | [], _, _, _, _, h => by simp at h
  | _ :: _, [], _, _, z, _ => z.elim
  | b0 :: bs, m :: ms, 0, b, z, h => by
    have e : b0 = b := Option.some.inj h
    subst e
    obtain ⟨ps, h1, h2⟩ := z.1
    exact ⟨m, ps, rfl, h1, h2⟩
  | _ :: bs, _ :: ms, i + 1, b, z, h => HPL_at bs ms i b z.2 h
theorem hiAll {b : am_N} {p : List (Nat × am_I)} {a n k : Nat} (h : p.all (am_oki am_B b am_sites am_nests) = true) : am_HI am_B am_sites am_nests b (p, a, n, k) := fun q hq => List.all_eq_true.mp h q hq
set_option maxRecDepth 100000 in
theorem am_hpl : HPL am_Bl am_Pl := by
  unfold am_Bl am_Pl
  refine HPL_c ⟨_, qX0_init, hiAll kX0_init⟩ ?_
  refine HPL_c ⟨_, qX0_saidOf, hiAll kX0_saidOf⟩ ?_
  refine HPL_c ⟨_, qX0_takeScene, hiAll kX0_takeScene⟩ ?_
  refine HPL_c ⟨_, qX0_takeLaw, hiAll kX0_takeLaw⟩ ?_
  refine HPL_c ⟨_, qX0_copyFrom, hiAll kX0_copyFrom⟩ ?_
  refine HPL_c ⟨_, qX1_init, hiAll kX1_init⟩ ?_
  refine HPL_c ⟨_, qX1_hasRoom, hiAll kX1_hasRoom⟩ ?_
  refine HPL_c ⟨_, qX1_take, hiAll kX1_take⟩ ?_
  refine HPL_c ⟨_, qX1_shorten, hiAll kX1_shorten⟩ ?_
  refine HPL_c ⟨_, qX1_start, hiAll kX1_start⟩ ?_
  refine HPL_c ⟨_, qX1_byteAt, hiAll kX1_byteAt⟩ ?_
  refine HPL_c ⟨_, qX1_isBlank, hiAll kX1_isBlank⟩ ?_
  refine HPL_c ⟨_, qX1_isDigit, hiAll kX1_isDigit⟩ ?_
  refine HPL_c ⟨_, qX1_isLetter, hiAll kX1_isLetter⟩ ?_
  refine HPL_c ⟨_, qX1_runEnd, hiAll kX1_runEnd⟩ ?_
  refine HPL_c ⟨_, qX1_addToken, hiAll kX1_addToken⟩ ?_
  refine HPL_c ⟨_, qX1_kindOf, hiAll kX1_kindOf⟩ ?_
  refine HPL_c ⟨_, qX1_numberOf, hiAll kX1_numberOf⟩ ?_
  refine HPL_c ⟨_, qX1_wordOf, hiAll kX1_wordOf⟩ ?_
  refine HPL_c ⟨_, qX1_isSame, hiAll kX1_isSame⟩ ?_
  refine HPL_c ⟨_, qX1_token, hiAll kX1_token⟩ ?_
  refine HPL_c ⟨_, qX1_fail, hiAll kX1_fail⟩ ?_
  refine HPL_c ⟨_, qX1_skip, hiAll kX1_skip⟩ ?_
  refine HPL_c ⟨_, qX1_nextNumber, hiAll kX1_nextNumber⟩ ?_
  refine HPL_c ⟨_, qX1_oneOf, hiAll kX1_oneOf⟩ ?_
  refine HPL_c ⟨_, qX1_readScene, hiAll kX1_readScene⟩ ?_
  refine HPL_c ⟨_, qX1_readAct, hiAll kX1_readAct⟩ ?_
  refine HPL_c ⟨_, qX1_readOther, hiAll kX1_readOther⟩ ?_
  refine HPL_c ⟨_, qX1_readLaw, hiAll kX1_readLaw⟩ ?_
  refine HPL_c ⟨_, qX1_readLine, hiAll kX1_readLine⟩ ?_
  refine HPL_c ⟨_, qX1_emit, hiAll kX1_emit⟩ ?_
  refine HPL_c ⟨_, qX1_condition, hiAll kX1_condition⟩ ?_
  refine HPL_c ⟨_, qX1_single, hiAll kX1_single⟩ ?_
  refine HPL_c ⟨_, qX1_sum, hiAll kX1_sum⟩ ?_
  refine HPL_c ⟨_, qX1_part, hiAll kX1_part⟩ ?_
  refine HPL_c ⟨_, qX1_unit, hiAll kX1_unit⟩ ?_
  refine HPL_c ⟨_, qX2_init, hiAll kX2_init⟩ ?_
  refine HPL_c ⟨_, qX2_has, hiAll kX2_has⟩ ?_
  refine HPL_c ⟨_, qX2_isFull, hiAll kX2_isFull⟩ ?_
  refine HPL_c ⟨_, qX2_at, hiAll kX2_at⟩ ?_
  refine HPL_c ⟨_, qX2_add, hiAll kX2_add⟩ ?_
  refine HPL_c ⟨_, qX2_set, hiAll kX2_set⟩ ?_
  refine HPL_c ⟨_, qX2_copyFrom, hiAll kX2_copyFrom⟩ ?_
  refine HPL_c ⟨_, qX3_init, hiAll kX3_init⟩ ?_
  refine HPL_c ⟨_, qX3_give, hiAll kX3_give⟩ ?_
  refine HPL_c ⟨_, qX3_weigh, hiAll kX3_weigh⟩ ?_
  refine HPL_c ⟨_, qX3_ruleOf, hiAll kX3_ruleOf⟩ ?_
  refine HPL_c ⟨_, qX3_amountOf, hiAll kX3_amountOf⟩ ?_
  refine HPL_c ⟨_, qX3_run, hiAll kX3_run⟩ ?_
  refine HPL_c ⟨_, qX3_worked, hiAll kX3_worked⟩ ?_
  refine HPL_c ⟨_, qX4_init, hiAll kX4_init⟩ ?_
  refine HPL_c ⟨_, qX4_begin, hiAll kX4_begin⟩ ?_
  refine HPL_c ⟨_, qX4_copyFrom, hiAll kX4_copyFrom⟩ ?_
  refine HPL_c ⟨_, qX4_act, hiAll kX4_act⟩ ?_
  refine HPL_c ⟨_, qX4_canSee, hiAll kX4_canSee⟩ ?_
  refine HPL_c ⟨_, qX4_seemsToSee, hiAll kX4_seemsToSee⟩ ?_
  refine HPL_c ⟨_, qX4_wear, hiAll kX4_wear⟩ ?_
  refine HPL_c ⟨_, qX4_snap, hiAll kX4_snap⟩ ?_
  refine HPL_c ⟨_, qX4_bring, hiAll kX4_bring⟩ ?_
  refine HPL_c ⟨_, qX4_see, hiAll kX4_see⟩ ?_
  refine HPL_c ⟨_, qX4_inform, hiAll kX4_inform⟩ ?_
  refine HPL_c ⟨_, qX4_lift, hiAll kX4_lift⟩ ?_
  refine HPL_c ⟨_, qX4_watchLift, hiAll kX4_watchLift⟩ ?_
  refine HPL_c ⟨_, qX4_allMoves, hiAll kX4_allMoves⟩ ?_
  refine HPL_c ⟨_, qX4_ofLook, hiAll kX4_ofLook⟩ ?_
  refine HPL_c ⟨_, qX4_ofPicture, hiAll kX4_ofPicture⟩ ?_
  refine HPL_c ⟨_, qX5_init, hiAll kX5_init⟩ ?_
  refine HPL_c ⟨_, qX5_state, hiAll kX5_state⟩ ?_
  refine HPL_c ⟨_, qX5_feed, hiAll kX5_feed⟩ ?_
  refine HPL_c ⟨_, qX5_end, hiAll kX5_end⟩ ?_
  refine HPL_c ⟨_, qX5_text, hiAll kX5_text⟩ ?_
  refine HPL_c ⟨_, qX5_fault, hiAll kX5_fault⟩ ?_
  refine HPL_c ⟨_, qX5_after, hiAll kX5_after⟩ ?_
  refine HPL_c ⟨_, qX5_thinks, hiAll kX5_thinks⟩ ?_
  refine HPL_c ⟨_, qX5_here, hiAll kX5_here⟩ ?_
  refine HPL_c ⟨_, qX5_question, hiAll kX5_question⟩ ?_
  refine HPL_c ⟨_, qX5_says, hiAll kX5_says⟩ ?_
  refine HPL_c ⟨_, qX5_child, hiAll kX5_child⟩ ?_
  refine HPL_c ⟨_, qX5_weight, hiAll kX5_weight⟩ ?_
  refine HPL_c ⟨_, qX5_ask, hiAll kX5_ask⟩ ?_
  refine HPL_c ⟨_, qX5_told, hiAll kX5_told⟩ ?_
  refine HPL_c ⟨_, qX5_answer, hiAll kX5_answer⟩ ?_
  refine HPL_c ⟨_, qX5_chance, hiAll kX5_chance⟩ ?_
  refine HPL_c ⟨_, qX5_parted, hiAll kX5_parted⟩ ?_
  refine HPL_c ⟨_, qX5_fewest, hiAll kX5_fewest⟩ ?_
  refine HPL_c ⟨_, qX5_make, hiAll kX5_make⟩ ?_
  refine HPL_c ⟨_, qX5_odds, hiAll kX5_odds⟩ ?_
  refine HPL_c ⟨_, qX5_need, hiAll kX5_need⟩ ?_
  refine HPL_c ⟨_, qX5_pulls, hiAll kX5_pulls⟩ ?_
  refine HPL_c ⟨_, qX5_beside, hiAll kX5_beside⟩ ?_
  refine HPL_c ⟨_, qX5_eyes, hiAll kX5_eyes⟩ ?_
  refine HPL_c ⟨_, qX5_way, hiAll kX5_way⟩ ?_
  refine HPL_c ⟨_, qX5_house, hiAll kX5_house⟩ ?_
  refine HPL_c ⟨_, qX5_houses, hiAll kX5_houses⟩ ?_
  refine HPL_c ⟨_, qX5_sorts, hiAll kX5_sorts⟩ ?_
  refine HPL_c ⟨_, qX5_curve, hiAll kX5_curve⟩ ?_
  refine HPL_c ⟨_, qX5_score, hiAll kX5_score⟩ ?_
  refine HPL_c ⟨_, qX5_next, hiAll kX5_next⟩ ?_
  refine HPL_c ⟨_, qX5_image, hiAll kX5_image⟩ ?_
  refine HPL_c ⟨_, qX5_look, hiAll kX5_look⟩ ?_
  refine HPL_c ⟨_, qX5_within, hiAll kX5_within⟩ ?_
  refine HPL_c ⟨_, qX5_cut, hiAll kX5_cut⟩ ?_
  refine HPL_c ⟨_, qX5_isScene, hiAll kX5_isScene⟩ ?_
  refine HPL_c ⟨_, qX5_isLaw, hiAll kX5_isLaw⟩ ?_
  refine HPL_c ⟨_, qX5_isThing, hiAll kX5_isThing⟩ ?_
  refine HPL_c ⟨_, qX5_isWho, hiAll kX5_isWho⟩ ?_
  refine HPL_c ⟨_, qX5_isRule, hiAll kX5_isRule⟩ ?_
  refine HPL_c ⟨_, qX5_isAnswer, hiAll kX5_isAnswer⟩ ?_
  refine HPL_c ⟨_, qX5_canAsk, hiAll kX5_canAsk⟩ ?_
  refine HPL_c ⟨_, qX5_lawOf, hiAll kX5_lawOf⟩ ?_
  refine HPL_c ⟨_, qX5_draw, hiAll kX5_draw⟩ ?_
  refine HPL_c ⟨_, qX5_root, hiAll kX5_root⟩ ?_
  refine HPL_c ⟨_, qX5_thousandByRoot, hiAll kX5_thousandByRoot⟩ ?_
  refine HPL_c ⟨_, qX5_play, hiAll kX5_play⟩ ?_
  refine HPL_c ⟨_, qX5_settle, hiAll kX5_settle⟩ ?_
  refine HPL_c ⟨_, qX5_settleAll, hiAll kX5_settleAll⟩ ?_
  refine HPL_c ⟨_, qX5_ruleIn, hiAll kX5_ruleIn⟩ ?_
  refine HPL_c ⟨_, qX5_isTelling, hiAll kX5_isTelling⟩ ?_
  refine HPL_c ⟨_, qX5_weigh, hiAll kX5_weigh⟩ ?_
  refine HPL_c ⟨_, qX5_weighedChance, hiAll kX5_weighedChance⟩ ?_
  refine HPL_c ⟨_, qX5_partedBy, hiAll kX5_partedBy⟩ ?_
  refine HPL_c ⟨_, qX5_listCouples, hiAll kX5_listCouples⟩ ?_
  refine HPL_c ⟨_, qX5_partsAll, hiAll kX5_partsAll⟩ ?_
  refine HPL_c ⟨_, qX5_actParts, hiAll kX5_actParts⟩ ?_
  refine HPL_c ⟨_, qX5_firstMove, hiAll kX5_firstMove⟩ ?_
  refine HPL_c ⟨_, qX5_agree, hiAll kX5_agree⟩ ?_
  refine HPL_c ⟨_, qX5_countAgreed, hiAll kX5_countAgreed⟩ ?_
  refine HPL_c ⟨_, qX5_oddsOf, hiAll kX5_oddsOf⟩ ?_
  refine HPL_c ⟨_, qX5_powerOfNine, hiAll kX5_powerOfNine⟩ ?_
  refine HPL_c ⟨_, qX5_mostAgreed, hiAll kX5_mostAgreed⟩ ?_
  refine HPL_c ⟨_, qX5_itsRule, hiAll kX5_itsRule⟩ ?_
  refine HPL_c ⟨_, qX5_lastRight, hiAll kX5_lastRight⟩ ?_
  refine HPL_c ⟨_, qX5_isRight, hiAll kX5_isRight⟩ ?_
  refine HPL_c ⟨_, qX5_isLong, hiAll kX5_isLong⟩ ?_
  refine HPL_c ⟨_, qX5_isRare, hiAll kX5_isRare⟩ ?_
  refine HPL_c ⟨_, qX5_shareOf, hiAll kX5_shareOf⟩ ?_
  refine HPL_c ⟨_, qX5_joined, hiAll kX5_joined⟩ ?_
  refine HPL_c ⟨_, qX5_farApart, hiAll kX5_farApart⟩ ?_
  refine HPL_c ⟨_, qX5_offHouses, hiAll kX5_offHouses⟩ ?_
  refine HPL_c ⟨_, qX5_haveHouses, hiAll kX5_haveHouses⟩ ?_
  refine HPL_c ⟨_, qX5_countStep, hiAll kX5_countStep⟩ ?_
  refine HPL_c ⟨_, qX5_turn, hiAll kX5_turn⟩ ?_
  refine HPL_c ⟨_, qX5_scoreOf, hiAll kX5_scoreOf⟩ ?_
  refine HPL_c ⟨_, qX5_level, hiAll kX5_level⟩ ?_
  refine HPL_c ⟨_, qX5_farApartBy, hiAll kX5_farApartBy⟩ ?_
  refine HPL_c ⟨_, qX6_init, hiAll kX6_init⟩ ?_
  refine HPL_c ⟨_, qX6_isIn, hiAll kX6_isIn⟩ ?_
  refine HPL_c ⟨_, qX6_apart, hiAll kX6_apart⟩ ?_
  refine HPL_c ⟨_, qX6_root, hiAll kX6_root⟩ ?_
  refine HPL_c ⟨_, qX6_state, hiAll kX6_state⟩ ?_
  refine HPL_c ⟨_, qX6_draw, hiAll kX6_draw⟩ ?_
  refine HPL_c ⟨_, qX6_feed, hiAll kX6_feed⟩ ?_
  refine HPL_c ⟨_, qX6_end, hiAll kX6_end⟩ ?_
  refine HPL_c ⟨_, qX6_see, hiAll kX6_see⟩ ?_
  refine HPL_c ⟨_, qX6_isLetter, hiAll kX6_isLetter⟩ ?_
  refine HPL_c ⟨_, qX6_isDigit, hiAll kX6_isDigit⟩ ?_
  refine HPL_c ⟨_, qX6_is, hiAll kX6_is⟩ ?_
  refine HPL_c ⟨_, qX6_actWord, hiAll kX6_actWord⟩ ?_
  refine HPL_c ⟨_, qX6_lawWord, hiAll kX6_lawWord⟩ ?_
  refine HPL_c ⟨_, qX6_next0, hiAll kX6_next0⟩ ?_
  refine HPL_c ⟨_, qX6_bad, hiAll kX6_bad⟩ ?_
  refine HPL_c ⟨_, qX6_need0, hiAll kX6_need0⟩ ?_
  refine HPL_c ⟨_, qX6_number, hiAll kX6_number⟩ ?_
  refine HPL_c ⟨_, qX6_lay, hiAll kX6_lay⟩ ?_
  refine HPL_c ⟨_, qX6_opens, hiAll kX6_opens⟩ ?_
  refine HPL_c ⟨_, qX6_sumUp, hiAll kX6_sumUp⟩ ?_
  refine HPL_c ⟨_, qX6_product, hiAll kX6_product⟩ ?_
  refine HPL_c ⟨_, qX6_unit, hiAll kX6_unit⟩ ?_
  refine HPL_c ⟨_, qX6_any, hiAll kX6_any⟩ ?_
  refine HPL_c ⟨_, qX6_every, hiAll kX6_every⟩ ?_
  refine HPL_c ⟨_, qX6_one, hiAll kX6_one⟩ ?_
  refine HPL_c ⟨_, qX6_argument, hiAll kX6_argument⟩ ?_
  refine HPL_c ⟨_, qX6_anAct, hiAll kX6_anAct⟩ ?_
  refine HPL_c ⟨_, qX6_aLine, hiAll kX6_aLine⟩ ?_
  refine HPL_c ⟨_, qX6_text, hiAll kX6_text⟩ ?_
  refine HPL_c ⟨_, qX6_keeps, hiAll kX6_keeps⟩ ?_
  refine HPL_c ⟨_, qX6_fault, hiAll kX6_fault⟩ ?_
  refine HPL_c ⟨_, qX6_begins, hiAll kX6_begins⟩ ?_
  refine HPL_c ⟨_, qX6_canSee, hiAll kX6_canSee⟩ ?_
  refine HPL_c ⟨_, qX6_takesForSeeing, hiAll kX6_takesForSeeing⟩ ?_
  refine HPL_c ⟨_, qX6_moves, hiAll kX6_moves⟩ ?_
  refine HPL_c ⟨_, qX6_tells, hiAll kX6_tells⟩ ?_
  refine HPL_c ⟨_, qX6_lifts, hiAll kX6_lifts⟩ ?_
  refine HPL_c ⟨_, qX6_acts, hiAll kX6_acts⟩ ?_
  refine HPL_c ⟨_, qX6_goes, hiAll kX6_goes⟩ ?_
  refine HPL_c ⟨_, qX6_isScene, hiAll kX6_isScene⟩ ?_
  refine HPL_c ⟨_, qX6_isWho, hiAll kX6_isWho⟩ ?_
  refine HPL_c ⟨_, qX6_isThing, hiAll kX6_isThing⟩ ?_
  refine HPL_c ⟨_, qX6_after, hiAll kX6_after⟩ ?_
  refine HPL_c ⟨_, qX6_thinks, hiAll kX6_thinks⟩ ?_
  refine HPL_c ⟨_, qX6_here, hiAll kX6_here⟩ ?_
  refine HPL_c ⟨_, qX6_asked, hiAll kX6_asked⟩ ?_
  refine HPL_c ⟨_, qX6_isQuestion, hiAll kX6_isQuestion⟩ ?_
  refine HPL_c ⟨_, qX6_question, hiAll kX6_question⟩ ?_
  refine HPL_c ⟨_, qX6_saysNow, hiAll kX6_saysNow⟩ ?_
  refine HPL_c ⟨_, qX6_saysOf, hiAll kX6_saysOf⟩ ?_
  refine HPL_c ⟨_, qX6_tellsSome, hiAll kX6_tellsSome⟩ ?_
  refine HPL_c ⟨_, qX6_says, hiAll kX6_says⟩ ?_
  refine HPL_c ⟨_, qX6_ofChild, hiAll kX6_ofChild⟩ ?_
  refine HPL_c ⟨_, qX6_isChild, hiAll kX6_isChild⟩ ?_
  refine HPL_c ⟨_, qX6_isLaw, hiAll kX6_isLaw⟩ ?_
  refine HPL_c ⟨_, qX6_isHow, hiAll kX6_isHow⟩ ?_
  refine HPL_c ⟨_, qX6_child, hiAll kX6_child⟩ ?_
  refine HPL_c ⟨_, qX6_both, hiAll kX6_both⟩ ?_
  refine HPL_c ⟨_, qX6_comesTo, hiAll kX6_comesTo⟩ ?_
  refine HPL_c ⟨_, qX6_gathers, hiAll kX6_gathers⟩ ?_
  refine HPL_c ⟨_, qX6_weighs, hiAll kX6_weighs⟩ ?_
  refine HPL_c ⟨_, qX6_weight, hiAll kX6_weight⟩ ?_
  refine HPL_c ⟨_, qX6_allWeights, hiAll kX6_allWeights⟩ ?_
  refine HPL_c ⟨_, qX6_ofAnswer, hiAll kX6_ofAnswer⟩ ?_
  refine HPL_c ⟨_, qX6_answers, hiAll kX6_answers⟩ ?_
  refine HPL_c ⟨_, qX6_ask, hiAll kX6_ask⟩ ?_
  refine HPL_c ⟨_, qX6_isAnswer, hiAll kX6_isAnswer⟩ ?_
  refine HPL_c ⟨_, qX6_told, hiAll kX6_told⟩ ?_
  refine HPL_c ⟨_, qX6_answer, hiAll kX6_answer⟩ ?_
  refine HPL_c ⟨_, qX6_chanceOf, hiAll kX6_chanceOf⟩ ?_
  refine HPL_c ⟨_, qX6_chance, hiAll kX6_chance⟩ ?_
  refine HPL_c ⟨_, qX6_isRule, hiAll kX6_isRule⟩ ?_
  refine HPL_c ⟨_, qX6_partedBy, hiAll kX6_partedBy⟩ ?_
  refine HPL_c ⟨_, qX6_parted, hiAll kX6_parted⟩ ?_
  refine HPL_c ⟨_, qX6_count, hiAll kX6_count⟩ ?_
  refine HPL_c ⟨_, qX6_fewest, hiAll kX6_fewest⟩ ?_
  refine HPL_c ⟨_, qX6_unlikeBehind, hiAll kX6_unlikeBehind⟩ ?_
  refine HPL_c ⟨_, qX6_make, hiAll kX6_make⟩ ?_
  refine HPL_c ⟨_, qX6_multiplies, hiAll kX6_multiplies⟩ ?_
  refine HPL_c ⟨_, qX6_oddsNow, hiAll kX6_oddsNow⟩ ?_
  refine HPL_c ⟨_, qX6_itsRule, hiAll kX6_itsRule⟩ ?_
  refine HPL_c ⟨_, qX6_odds, hiAll kX6_odds⟩ ?_
  refine HPL_c ⟨_, qX6_need, hiAll kX6_need⟩ ?_
  refine HPL_c ⟨_, qX6_isTelling, hiAll kX6_isTelling⟩ ?_
  refine HPL_c ⟨_, qX6_pulls, hiAll kX6_pulls⟩ ?_
  refine HPL_c ⟨_, qX6_passes, hiAll kX6_passes⟩ ?_
  refine HPL_c ⟨_, qX6_beside, hiAll kX6_beside⟩ ?_
  refine HPL_c ⟨_, qX6_eyes, hiAll kX6_eyes⟩ ?_
  refine HPL_c ⟨_, qX6_isRare, hiAll kX6_isRare⟩ ?_
  refine HPL_c ⟨_, qX6_isLong, hiAll kX6_isLong⟩ ?_
  refine HPL_c ⟨_, qX6_way, hiAll kX6_way⟩ ?_
  refine HPL_c ⟨_, qX6_house, hiAll kX6_house⟩ ?_
  refine HPL_c ⟨_, qX6_share, hiAll kX6_share⟩ ?_
  refine HPL_c ⟨_, qX6_houses, hiAll kX6_houses⟩ ?_
  refine HPL_c ⟨_, qX6_sorts, hiAll kX6_sorts⟩ ?_
  refine HPL_c ⟨_, qX6_curves, hiAll kX6_curves⟩ ?_
  refine HPL_c ⟨_, qX6_curve, hiAll kX6_curve⟩ ?_
  refine HPL_c ⟨_, qX6_level, hiAll kX6_level⟩ ?_
  refine HPL_c ⟨_, qX6_scoreOf, hiAll kX6_scoreOf⟩ ?_
  refine HPL_c ⟨_, qX6_score, hiAll kX6_score⟩ ?_
  refine HPL_c ⟨_, qX6_next, hiAll kX6_next⟩ ?_
  refine HPL_c ⟨_, qX6_image, hiAll kX6_image⟩ ?_
  refine HPL_c ⟨_, qX6_look, hiAll kX6_look⟩ ?_
  refine HPL_c ⟨_, qJ0_length_8abf5, hiAll kJ0_length_8abf5⟩ ?_
  refine HPL_c ⟨_, qJ0_charAt_5068e, hiAll kJ0_charAt_5068e⟩ ?_
  refine HPL_c ⟨_, qJ0_indexOf_0f7a4, hiAll kJ0_indexOf_0f7a4⟩ ?_
  refine HPL_c ⟨_, qJ0_indexOf_7cf53, hiAll kJ0_indexOf_7cf53⟩ ?_
  refine HPL_c ⟨_, qJ0_coder_7d493, hiAll kJ0_coder_7d493⟩ ?_
  refine HPL_c ⟨_, qJ0_isLatin1_aae02, hiAll kJ0_isLatin1_aae02⟩ ?_
  refine HPL_c ⟨_, qJ0_checkIndex_df160, hiAll kJ0_checkIndex_df160⟩ ?_
  refine HPL_c ⟨_, qJ1_charAt_3b067, hiAll kJ1_charAt_3b067⟩ ?_
  refine HPL_c ⟨_, qJ1_canEncode_9a6ad, hiAll kJ1_canEncode_9a6ad⟩ ?_
  refine HPL_c ⟨_, qJ1_indexOf_4cfef, hiAll kJ1_indexOf_4cfef⟩ ?_
  refine HPL_c ⟨_, qJ1_indexOfChar_4cfef, hiAll kJ1_indexOfChar_4cfef⟩ ?_
  refine HPL_c ⟨_, qJ3_checkIndex_8e157, hiAll kJ3_checkIndex_8e157⟩ ?_
  refine HPL_c ⟨_, qJ7_fill_53178, hiAll kJ7_fill_53178⟩ ?_
  refine HPL_c ⟨_, qJ6_bitCount_0f7a4, hiAll kJ6_bitCount_0f7a4⟩ ?_
  refine HPL_c ⟨_, qJ9_floorMod_7cf53, hiAll kJ9_floorMod_7cf53⟩ ?_
  refine HPL_c ⟨_, qJ9_abs_0f7a4, hiAll kJ9_abs_0f7a4⟩ ?_
  refine HPL_c ⟨_, qJ9_max_7cf53, hiAll kJ9_max_7cf53⟩ ?_
  refine HPL_c ⟨_, qJ9_min_7cf53, hiAll kJ9_min_7cf53⟩ ?_
  exact HPL_n
theorem am_hp : am_HP am_P am_B am_sites am_nests := fun mi b hb => HPL_at am_Bl am_Pl mi b am_hpl hb
theorem law_run (L : Nat) (xs : Nat → Int32) (hL : L ≤ 3072) : ∀ sio : Option Nat, ∃ n w1, am_ex am_P am_F (am_XX L xs sio) n 1000 267 0 (am_ent [.inr (.inr (some 3000))] 4) [] ([], fun _ _ => 0) = some (some (.inl 1), w1) ∧ w1.1.length ≤ 600000 ∧ am_sl w1.1 ≤ 7302250 := by
  intro sio
  have g := am_born L xs sio _ (sp_loop L xs sio 961 hL 3080 0 hD41 hD_I (MW_z (fun _ => rfl)) (MW_z (fun _ => rfl)) rfl rfl rfl rfl rfl rfl rfl rfl rfl rfl rfl rfl rfl rfl rfl rfl (TPL_z rfl) (SCL_0 (fun _ _ => rfl) (fun _ _ _ => rfl)) (SCL_0 (fun _ _ => rfl) (fun _ _ _ => rfl)) (QRL_0 rfl) (QRL_0 rfl) (SDL_0 rfl) (SDL_0 rfl) ⟨by decide, by decide⟩ (by decide))
  obtain ⟨n, r, w1, h, hr, hw⟩ := g
  subst hr
  exact ⟨n, w1, h, by rw [hw]; decide +kernel, by rw [hw]; decide +kernel⟩
theorem whole_start {p : Program} {e : Env} {s : State} {m : MethodId} {below : List Frame} {meth : Method} {c : Code} (l : Launch) (hflags : l.flags = flags0) {b L : Nat} {xs : Nat → Int32} (hL : L ≤ 3072) (C0 : lw_At p s m meth c b L xs) : W p l e room_1 s m #[Value.ref b] below meth c s.heap [] 0 0 (lw_Z below #[Value.ref b] s) (entryFrame m ([Value.ref b] : List Value).toArray 4) :=
  am_start l am_hp (hiAll kL_law) (law_run L xs hL) C0
