def zmL : List ZM := [(yX0_init, cX0_init, 1, none, 2, 1, 0, 3, 24),
  (yX0_isOrIsUnder, cX0_isOrIsUnder, 4, (some .boolean), 0, 2, 0, 0, 0),
  (yX0_copyFrom, cX0_copyFrom, 2, none, 1, 2, 0, 0, 0),
  (yX1_init, cX1_init, 5, none, 2, 5, 1, 1, 4),
  (yX1_goYear, cX1_goYear, 3, none, 1, 1, 1, 0, 0),
  (yX1_hearkens, cX1_hearkens, 5, (some .int), 1, 2, 1, 0, 0),
  (yX1_listen, cX1_listen, 4, none, 1, 2, 1, 0, 0),
  (yX1_pointOf, cX1_pointOf, 3, (some .int), 1, 2, 1, 0, 0),
  (yX1_pointAsEngineer, cX1_pointAsEngineer, 1, (some .int), 1, 1, 1, 0, 0),
  (yX1_pointAsSurveyor, cX1_pointAsSurveyor, 1, (some .int), 1, 1, 1, 0, 0),
  (yX1_pointAsDreamer, cX1_pointAsDreamer, 3, (some .int), 1, 2, 1, 0, 0),
  (yX1_pointAsForeman, cX1_pointAsForeman, 3, (some .int), 1, 2, 1, 0, 0),
  (yX1_turned, cX1_turned, 2, (some .int), 0, 2, 1, 0, 0),
  (yX1_weightOf, cX1_weightOf, 2, (some .int), 1, 2, 1, 0, 0),
  (yX1_earsOf, cX1_earsOf, 3, (some .int), 1, 3, 1, 0, 0),
  (yX2_init, cX2_init, 2, none, 2, 1, 2, 7, 156),
  (yX2_beside, cX2_beside, 4, (some .int), 0, 2, 2, 0, 0),
  (yX2_far, cX2_far, 2, (some .int), 0, 2, 2, 0, 0),
  (yX2_gap, cX2_gap, 1, (some .int), 1, 1, 2, 0, 0),
  (yX2_headsAt, cX2_headsAt, 2, (some .int), 1, 2, 2, 0, 0),
  (yX2_settle, cX2_settle, 4, none, 1, 3, 2, 0, 0),
  (yX2_hears, cX2_hears, 2, (some .int), 1, 2, 2, 0, 0),
  (yX2_go, cX2_go, 6, none, 1, 4, 2, 0, 0),
  (yX2_endYear, cX2_endYear, 2, none, 1, 1, 2, 0, 0),
  (yX2_copyFrom, cX2_copyFrom, 2, none, 1, 2, 2, 0, 0),
  (yX3_init, cX3_init, 1, none, 2, 1, 3, 3, 102),
  (yX3_gives, cX3_gives, 7, (some .int), 1, 4, 3, 0, 0),
  (yX3_operand, cX3_operand, 4, (some .int), 0, 4, 3, 0, 0),
  (yX3_joined, cX3_joined, 3, (some .int), 0, 3, 3, 0, 0),
  (yX4_init, cX4_init, 2, none, 2, 2, 4, 2, 52),
  (yX4_read, cX4_read, 2, (some .int), 1, 2, 4, 0, 0),
  (yX4_readLevel, cX4_readLevel, 6, none, 1, 3, 4, 0, 0),
  (yX4_readUnit, cX4_readUnit, 3, none, 1, 2, 4, 0, 0),
  (yX4_readNumber, cX4_readNumber, 3, none, 1, 1, 4, 0, 0),
  (yX4_readClosing, cX4_readClosing, 1, none, 1, 1, 4, 0, 0),
  (yX4_next, cX4_next, 1, (some .int), 1, 1, 4, 0, 0),
  (yX4_failHere, cX4_failHere, 1, none, 1, 1, 4, 0, 0),
  (yX4_isDigit, cX4_isDigit, 1, (some .boolean), 0, 1, 4, 0, 0),
  (yX4_nameOf, cX4_nameOf, 3, (some .int), 1, 2, 4, 0, 0),
  (yX4_levelOf, cX4_levelOf, 1, (some .int), 0, 1, 4, 0, 0),
  (yX5_init, cX5_init, 2, none, 2, 2, 5, 1, 50),
  (yX5_add, cX5_add, 2, (some .boolean), 1, 2, 5, 0, 0),
  (yX5_copyFrom, cX5_copyFrom, 2, none, 1, 2, 5, 0, 0),
  (yX6_init, cX6_init, 1, none, 2, 1, 6, 24, 506),
  (yX6_lawOf, cX6_lawOf, 2, (some (.object "TunnelHearsay$Law")), 1, 2, 6, 0, 0),
  (yX6_draw, cX6_draw, 1, (some .int), 1, 1, 6, 0, 0),
  (yX6_copyFrom, cX6_copyFrom, 2, none, 1, 2, 6, 0, 0),
  (yX7_init, cX7_init, 1, none, 2, 1, 7, 1, 40),
  (yX7_begin, cX7_begin, 3, none, 1, 3, 7, 0, 0),
  (yX7_write, cX7_write, 3, none, 1, 3, 7, 0, 0),
  (yX7_holds, cX7_holds, 3, (some .boolean), 1, 3, 7, 0, 0),
  (yX8_init, cX8_init, 1, none, 2, 1, 8, 2, 52),
  (yX8_speak, cX8_speak, 5, (some .int), 1, 5, 8, 0, 0),
  (yX8_say, cX8_say, 8, (some .int), 1, 5, 8, 0, 0),
  (yX8_bodyOf, cX8_bodyOf, 5, (some .int), 1, 5, 8, 0, 0),
  (yX9_init, cX9_init, 2, none, 2, 2, 9, 3, 192),
  (yX9_leastRock, cX9_leastRock, 7, (some .int), 1, 3, 9, 0, 0),
  (yX9_toll, cX9_toll, 2, (some .int), 1, 2, 9, 0, 0),
  (yX9_cheapest, cX9_cheapest, 4, (some .int), 1, 1, 9, 0, 0),
  (yX9_fewestWays, cX9_fewestWays, 3, (some .int), 1, 3, 9, 0, 0),
  (yX9_partsDug, cX9_partsDug, 3, (some .int), 1, 1, 9, 0, 0),
  (yX9_flood, cX9_flood, 7, none, 1, 2, 9, 0, 0),
  (yX9_isDug, cX9_isDug, 2, (some .boolean), 1, 2, 9, 0, 0),
  (yX9_alongLeft, cX9_alongLeft, 8, (some .int), 1, 4, 9, 0, 0),
  (yX9_wayAlongLeft, cX9_wayAlongLeft, 5, (some .int), 1, 3, 9, 0, 0),
  (yX10_init, cX10_init, 2, none, 2, 1, 10, 86, 1739),
  (yX10_rock, cX10_rock, 4, (some .int), 1, 3, 10, 0, 0),
  (yX10_dig, cX10_dig, 4, (some .int), 1, 3, 10, 0, 0),
  (yX10_ofCell, cX10_ofCell, 3, (some .int), 1, 3, 10, 0, 0),
  (yX10_head, cX10_head, 6, (some .int), 1, 4, 10, 0, 0),
  (yX10_mostOfHead, cX10_mostOfHead, 1, (some .int), 0, 1, 10, 0, 0),
  (yX10_ofHead, cX10_ofHead, 3, (some .int), 1, 3, 10, 0, 0),
  (yX10_delay, cX10_delay, 3, (some .int), 1, 2, 10, 0, 0),
  (yX10_engineer, cX10_engineer, 4, (some .int), 1, 3, 10, 0, 0),
  (yX10_ofEngineer, cX10_ofEngineer, 3, (some .int), 1, 3, 10, 0, 0),
  (yX10_change, cX10_change, 4, (some .int), 1, 3, 10, 0, 0),
  (yX10_become, cX10_become, 4, (some .int), 1, 3, 10, 0, 0),
  (yX10_as, cX10_as, 3, (some .int), 1, 3, 10, 0, 0),
  (yX10_feed, cX10_feed, 5, (some .int), 1, 3, 10, 0, 0),
  (yX10_text, cX10_text, 3, (some .int), 1, 2, 10, 0, 0),
  (yX10_law, cX10_law, 5, (some .int), 1, 5, 10, 0, 0),
  (yX10_years, cX10_years, 3, (some .int), 1, 2, 10, 0, 0),
  (yX10_loose, cX10_loose, 4, (some .int), 1, 2, 10, 0, 0),
  (yX10_then, cX10_then, 4, (some .int), 1, 4, 10, 0, 0),
  (yX10_meets, cX10_meets, 2, (some .int), 1, 1, 10, 0, 0),
  (yX10_apart, cX10_apart, 2, (some .int), 1, 2, 10, 0, 0),
  (yX10_delayFor, cX10_delayFor, 6, (some .int), 1, 2, 10, 0, 0),
  (yX10_powerFor, cX10_powerFor, 5, (some .int), 1, 4, 10, 0, 0),
  (yX10_needless, cX10_needless, 5, (some .int), 1, 2, 10, 0, 0),
  (yX10_heard, cX10_heard, 7, (some .int), 1, 4, 10, 0, 0),
  (yX10_which, cX10_which, 5, (some .int), 1, 3, 10, 0, 0),
  (yX10_join, cX10_join, 3, (some .int), 1, 3, 10, 0, 0),
  (yX10_steps, cX10_steps, 4, (some .int), 1, 3, 10, 0, 0),
  (yX10_hand, cX10_hand, 4, (some .int), 1, 4, 10, 0, 0),
  (yX10_parts, cX10_parts, 1, (some .int), 1, 1, 10, 0, 0),
  (yX10_odds, cX10_odds, 7, (some .int), 1, 4, 10, 0, 0),
  (yX10_seed, cX10_seed, 3, (some .int), 1, 2, 10, 0, 0),
  (yX10_voice, cX10_voice, 4, (some .int), 1, 4, 10, 0, 0),
  (yX10_trace, cX10_trace, 2, (some .int), 1, 2, 10, 0, 0),
  (yX10_sheet, cX10_sheet, 4, (some .int), 1, 4, 10, 0, 0),
  (yX10_put, cX10_put, 4, (some .int), 1, 4, 10, 0, 0),
  (yX10_move, cX10_move, 8, (some .int), 1, 6, 10, 0, 0),
  (yX10_rocks, cX10_rocks, 4, (some .int), 1, 2, 10, 0, 0),
  (yX10_judge, cX10_judge, 5, (some .int), 1, 2, 10, 0, 0),
  (yX10_image, cX10_image, 1, (some .int), 1, 1, 10, 0, 0),
  (yX10_restore, cX10_restore, 1, (some .int), 1, 1, 10, 0, 0),
  (yX10_tell, cX10_tell, 2, (some .int), 1, 2, 10, 0, 0),
  (yX10_check, cX10_check, 3, (some .int), 1, 1, 10, 0, 0),
  (yX10_count, cX10_count, 2, (some .int), 1, 2, 10, 0, 0),
  (yX10_told, cX10_told, 2, (some .int), 1, 2, 10, 0, 0),
  (yX10_failed, cX10_failed, 2, (some .int), 1, 2, 10, 0, 0),
  (yX10_isBeyond, cX10_isBeyond, 2, (some .boolean), 0, 2, 10, 0, 0),
  (yX10_isNobody, cX10_isNobody, 2, (some .boolean), 1, 2, 10, 0, 0),
  (yX10_think, cX10_think, 1, none, 1, 1, 10, 0, 0),
  (yX10_gapBehind, cX10_gapBehind, 3, (some .int), 1, 2, 10, 0, 0),
  (yX10_goesAsTold, cX10_goesAsTold, 4, (some .boolean), 1, 3, 10, 0, 0),
  (yX10_sharedFactor, cX10_sharedFactor, 3, (some .int), 0, 2, 10, 0, 0),
  (yX10_sumOf, cX10_sumOf, 4, (some .int), 0, 2, 10, 0, 0),
  (yX11_init, cX11_init, 2, none, 2, 1, 11, 14, 1407),
  (yX11_finds, cX11_finds, 2, (some .int), 1, 2, 11, 0, 0),
  (yX11_in, cX11_in, 6, (some .boolean), 0, 3, 11, 0, 0),
  (yX11_held, cX11_held, 3, (some .int), 0, 3, 11, 0, 0),
  (yX11_size, cX11_size, 1, (some .int), 0, 1, 11, 0, 0),
  (yX11_isEngineer, cX11_isEngineer, 2, (some .boolean), 1, 2, 11, 0, 0),
  (yX11_isCell, cX11_isCell, 1, (some .boolean), 0, 1, 11, 0, 0),
  (yX11_isHead, cX11_isHead, 1, (some .boolean), 0, 1, 11, 0, 0),
  (yX11_of, cX11_of, 3, (some .int), 1, 3, 11, 0, 0),
  (yX11_its, cX11_its, 3, (some .int), 1, 3, 11, 0, 0),
  (yX11_above, cX11_above, 1, (some .int), 0, 1, 11, 0, 0),
  (yX11_becomes, cX11_becomes, 4, (some .int), 1, 3, 11, 0, 0),
  (yX11_keepAside, cX11_keepAside, 2, none, 1, 1, 11, 0, 0),
  (yX11_putBack, cX11_putBack, 2, none, 1, 1, 11, 0, 0),
  (yX11_here, cX11_here, 1, (some .int), 1, 1, 11, 0, 0),
  (yX11_wrong, cX11_wrong, 1, none, 1, 1, 11, 0, 0),
  (yX11_takes, cX11_takes, 2, (some .boolean), 1, 2, 11, 0, 0),
  (yX11_nameOf, cX11_nameOf, 2, (some .int), 1, 2, 11, 0, 0),
  (yX11_lay, cX11_lay, 2, none, 1, 2, 11, 0, 0),
  (yX11_either, cX11_either, 1, none, 1, 1, 11, 0, 0),
  (yX11_both, cX11_both, 1, none, 1, 1, 11, 0, 0),
  (yX11_compared, cX11_compared, 2, none, 1, 1, 11, 0, 0),
  (yX11_sum, cX11_sum, 2, none, 1, 1, 11, 0, 0),
  (yX11_product, cX11_product, 2, none, 1, 1, 11, 0, 0),
  (yX11_opens, cX11_opens, 2, none, 1, 2, 11, 0, 0),
  (yX11_unit, cX11_unit, 5, none, 1, 1, 11, 0, 0),
  (yX11_reads, cX11_reads, 4, none, 1, 4, 11, 0, 0),
  (yX11_done, cX11_done, 3, (some .int), 0, 3, 11, 0, 0),
  (yX11_worked, cX11_worked, 6, (some .int), 1, 3, 11, 0, 0),
  (yX11_feed, cX11_feed, 5, (some .int), 1, 3, 11, 0, 0),
  (yX11_text, cX11_text, 4, (some .int), 1, 2, 11, 0, 0),
  (yX11_textGives, cX11_textGives, 6, (some .int), 1, 5, 11, 0, 0),
  (yX11_law, cX11_law, 5, (some .int), 1, 5, 11, 0, 0),
  (yX11_far, cX11_far, 2, (some .int), 0, 2, 11, 0, 0),
  (yX11_beside, cX11_beside, 2, (some .int), 0, 2, 11, 0, 0),
  (yX11_heads, cX11_heads, 1, (some .int), 1, 1, 11, 0, 0),
  (yX11_isPut, cX11_isPut, 4, none, 1, 3, 11, 0, 0),
  (yX11_heardBy, cX11_heardBy, 2, (some .int), 1, 2, 11, 0, 0),
  (yX11_farHeard, cX11_farHeard, 3, (some .int), 1, 2, 11, 0, 0),
  (yX11_turned, cX11_turned, 2, (some .int), 0, 2, 11, 0, 0),
  (yX11_points, cX11_points, 11, (some .int), 1, 2, 11, 0, 0),
  (yX11_earsOf, cX11_earsOf, 3, (some .int), 1, 2, 11, 0, 0),
  (yX11_gives, cX11_gives, 2, (some .int), 1, 2, 11, 0, 0),
  (yX11_hearkens, cX11_hearkens, 7, (some .int), 1, 2, 11, 0, 0),
  (yX11_goes, cX11_goes, 5, none, 1, 3, 11, 0, 0),
  (yX11_yearGoes, cX11_yearGoes, 5, none, 1, 1, 11, 0, 0),
  (yX11_yearsGo, cX11_yearsGo, 3, none, 1, 2, 11, 0, 0),
  (yX11_rock, cX11_rock, 3, (some .int), 1, 3, 11, 0, 0),
  (yX11_headsAt, cX11_headsAt, 2, (some .int), 1, 2, 11, 0, 0),
  (yX11_dig, cX11_dig, 3, (some .int), 1, 3, 11, 0, 0),
  (yX11_ofCell, cX11_ofCell, 3, (some .int), 1, 3, 11, 0, 0),
  (yX11_head, cX11_head, 5, (some .int), 1, 4, 11, 0, 0),
  (yX11_ofHead, cX11_ofHead, 3, (some .int), 1, 3, 11, 0, 0),
  (yX11_delay, cX11_delay, 2, (some .int), 1, 2, 11, 0, 0),
  (yX11_isKm, cX11_isKm, 1, (some .boolean), 0, 1, 11, 0, 0),
  (yX11_engineer, cX11_engineer, 4, (some .int), 1, 3, 11, 0, 0),
  (yX11_ofEngineer, cX11_ofEngineer, 3, (some .int), 1, 3, 11, 0, 0),
  (yX11_change, cX11_change, 3, (some .int), 1, 3, 11, 0, 0),
  (yX11_become, cX11_become, 3, (some .int), 1, 3, 11, 0, 0),
  (yX11_as, cX11_as, 4, (some .int), 1, 3, 11, 0, 0),
  (yX11_isLate, cX11_isLate, 2, (some .boolean), 1, 2, 11, 0, 0),
  (yX11_years, cX11_years, 2, (some .int), 1, 2, 11, 0, 0),
  (yX11_draw, cX11_draw, 1, (some .int), 1, 1, 11, 0, 0),
  (yX11_loose, cX11_loose, 4, (some .int), 1, 2, 11, 0, 0),
  (yX11_seed, cX11_seed, 2, (some .int), 1, 2, 11, 0, 0),
  (yX11_isAhead, cX11_isAhead, 1, (some .boolean), 0, 1, 11, 0, 0),
  (yX11_then, cX11_then, 5, (some .int), 1, 4, 11, 0, 0),
  (yX11_meets, cX11_meets, 3, (some .int), 1, 1, 11, 0, 0),
  (yX11_apartBehind, cX11_apartBehind, 3, (some .int), 1, 2, 11, 0, 0),
  (yX11_apart, cX11_apart, 2, (some .int), 1, 2, 11, 0, 0),
  (yX11_delayFor, cX11_delayFor, 6, (some .int), 1, 2, 11, 0, 0),
  (yX11_powerFor, cX11_powerFor, 5, (some .int), 1, 4, 11, 0, 0),
  (yX11_needless, cX11_needless, 5, (some .int), 1, 2, 11, 0, 0),
  (yX11_isTold, cX11_isTold, 5, (some .boolean), 1, 3, 11, 0, 0),
  (yX11_heard, cX11_heard, 8, (some .int), 1, 4, 11, 0, 0),
  (yX11_which, cX11_which, 5, (some .int), 1, 3, 11, 0, 0),
  (yX11_measures, cX11_measures, 8, none, 1, 3, 11, 0, 0),
  (yX11_takesRock, cX11_takesRock, 2, (some .int), 1, 2, 11, 0, 0),
  (yX11_join, cX11_join, 3, (some .int), 1, 3, 11, 0, 0),
  (yX11_steps, cX11_steps, 3, (some .int), 1, 3, 11, 0, 0),
  (yX11_isOpen, cX11_isOpen, 4, (some .boolean), 1, 3, 11, 0, 0),
  (yX11_hand, cX11_hand, 10, (some .int), 1, 4, 11, 0, 0),
  (yX11_parts, cX11_parts, 4, (some .int), 1, 1, 11, 0, 0),
  (yX11_common, cX11_common, 5, (some .int), 0, 2, 11, 0, 0),
  (yX11_odds, cX11_odds, 6, (some .int), 1, 4, 11, 0, 0),
  (yX11_ran, cX11_ran, 2, none, 1, 2, 11, 0, 0),
  (yX11_knocksBy, cX11_knocksBy, 3, (some .int), 1, 3, 11, 0, 0),
  (yX11_hearsBy, cX11_hearsBy, 4, (some .int), 1, 3, 11, 0, 0),
  (yX11_digsBy, cX11_digsBy, 3, (some .int), 1, 3, 11, 0, 0),
  (yX11_tellsBy, cX11_tellsBy, 4, (some .int), 1, 3, 11, 0, 0),
  (yX11_voice, cX11_voice, 5, (some .int), 1, 4, 11, 0, 0),
  (yX11_trace, cX11_trace, 2, (some .int), 1, 2, 11, 0, 0),
  (yX11_isSheet, cX11_isSheet, 1, (some .boolean), 0, 1, 11, 0, 0),
  (yX11_sheet, cX11_sheet, 5, (some .int), 1, 4, 11, 0, 0),
  (yX11_put, cX11_put, 4, (some .int), 1, 4, 11, 0, 0),
  (yX11_move, cX11_move, 7, (some .int), 1, 6, 11, 0, 0),
  (yX11_rocks, cX11_rocks, 3, (some .int), 1, 2, 11, 0, 0),
  (yX11_judge, cX11_judge, 3, (some .int), 1, 2, 11, 0, 0),
  (yX11_image, cX11_image, 2, (some .int), 1, 1, 11, 0, 0),
  (yX11_restore, cX11_restore, 2, (some .int), 1, 1, 11, 0, 0),
  (yX11_tell, cX11_tell, 2, (some .int), 1, 2, 11, 0, 0),
  (yX11_check, cX11_check, 4, (some .int), 1, 1, 11, 0, 0),
  (yX11_sumOf, cX11_sumOf, 6, (some .int), 1, 4, 11, 0, 0),
  (yX11_count, cX11_count, 2, (some .int), 1, 2, 11, 0, 0),
  (yX11_told, cX11_told, 2, (some .int), 1, 2, 11, 0, 0),
  (yJ7_fill_53178, cJ7_fill_53178, 4, none, 0, 2, 0, 0, 0)]
def zm (n : Nat) : ZM := zmL.getD n (yX0_init, cX0_init, 0, none, 0, 0, 0, 0, 0)
abbrev mX0_init : ZM := (yX0_init, cX0_init, 1, none, 2, 1, 0, 3, 24)
set_option maxRecDepth 100000 in
theorem gd_X0_init : zgood mX0_init := ⟨zmem 160 rfl rfl, zmem 75 rfl rfl, by decide, by decide +kernel, by decide +kernel, by decide +kernel, by decide +kernel, Or.inr (Or.inr ⟨rfl, zmem 159 rfl rfl, rfl, rfl, by decide⟩)⟩
abbrev mX0_isOrIsUnder : ZM := (yX0_isOrIsUnder, cX0_isOrIsUnder, 4, (some .boolean), 0, 2, 0, 0, 0)
set_option maxRecDepth 100000 in
theorem gd_X0_isOrIsUnder : zgood mX0_isOrIsUnder := ⟨zmem 550 rfl rfl, zmem 75 rfl rfl, by decide, by decide +kernel, by decide +kernel, by decide +kernel, by decide +kernel, Or.inl ⟨rfl, zmem 549 rfl rfl⟩⟩
abbrev mX0_copyFrom : ZM := (yX0_copyFrom, cX0_copyFrom, 2, none, 1, 2, 0, 0, 0)
set_option maxRecDepth 100000 in
theorem gd_X0_copyFrom : zgood mX0_copyFrom := ⟨zmem 679 rfl rfl, zmem 75 rfl rfl, by decide, by decide +kernel, by decide +kernel, by decide +kernel, by decide +kernel, Or.inr (Or.inl ⟨rfl, zmem 677 rfl rfl, zmem 678 rfl rfl, rfl, by decide⟩)⟩
abbrev mX1_init : ZM := (yX1_init, cX1_init, 5, none, 2, 5, 1, 1, 4)
set_option maxRecDepth 100000 in
theorem gd_X1_init : zgood mX1_init := ⟨zmem 258 rfl rfl, zmem 79 rfl rfl, by decide, by decide +kernel, by decide +kernel, by decide +kernel, by decide +kernel, Or.inr (Or.inr ⟨rfl, zmem 257 rfl rfl, rfl, rfl, by decide⟩)⟩
abbrev mX1_goYear : ZM := (yX1_goYear, cX1_goYear, 3, none, 1, 1, 1, 0, 0)
set_option maxRecDepth 100000 in
theorem gd_X1_goYear : zgood mX1_goYear := ⟨zmem 631 rfl rfl, zmem 79 rfl rfl, by decide, by decide +kernel, by decide +kernel, by decide +kernel, by decide +kernel, Or.inr (Or.inl ⟨rfl, zmem 629 rfl rfl, zmem 630 rfl rfl, rfl, by decide⟩)⟩
abbrev mX1_hearkens : ZM := (yX1_hearkens, cX1_hearkens, 5, (some .int), 1, 2, 1, 0, 0)
set_option maxRecDepth 100000 in
theorem gd_X1_hearkens : zgood mX1_hearkens := ⟨zmem 455 rfl rfl, zmem 79 rfl rfl, by decide, by decide +kernel, by decide +kernel, by decide +kernel, by decide +kernel, Or.inr (Or.inl ⟨rfl, zmem 453 rfl rfl, zmem 454 rfl rfl, rfl, by decide⟩)⟩
abbrev mX1_listen : ZM := (yX1_listen, cX1_listen, 4, none, 1, 2, 1, 0, 0)
set_option maxRecDepth 100000 in
theorem gd_X1_listen : zgood mX1_listen := ⟨zmem 459 rfl rfl, zmem 79 rfl rfl, by decide, by decide +kernel, by decide +kernel, by decide +kernel, by decide +kernel, Or.inr (Or.inl ⟨rfl, zmem 457 rfl rfl, zmem 458 rfl rfl, rfl, by decide⟩)⟩
abbrev mX1_pointOf : ZM := (yX1_pointOf, cX1_pointOf, 3, (some .int), 1, 2, 1, 0, 0)
set_option maxRecDepth 100000 in
theorem gd_X1_pointOf : zgood mX1_pointOf := ⟨zmem 473 rfl rfl, zmem 79 rfl rfl, by decide, by decide +kernel, by decide +kernel, by decide +kernel, by decide +kernel, Or.inr (Or.inl ⟨rfl, zmem 471 rfl rfl, zmem 472 rfl rfl, rfl, by decide⟩)⟩
abbrev mX1_pointAsEngineer : ZM := (yX1_pointAsEngineer, cX1_pointAsEngineer, 1, (some .int), 1, 1, 1, 0, 0)
set_option maxRecDepth 100000 in
theorem gd_X1_pointAsEngineer : zgood mX1_pointAsEngineer := ⟨zmem 481 rfl rfl, zmem 79 rfl rfl, by decide, by decide +kernel, by decide +kernel, by decide +kernel, by decide +kernel, Or.inr (Or.inl ⟨rfl, zmem 480 rfl rfl, zmem 2 rfl rfl, rfl, by decide⟩)⟩
abbrev mX1_pointAsSurveyor : ZM := (yX1_pointAsSurveyor, cX1_pointAsSurveyor, 1, (some .int), 1, 1, 1, 0, 0)
set_option maxRecDepth 100000 in
theorem gd_X1_pointAsSurveyor : zgood mX1_pointAsSurveyor := ⟨zmem 477 rfl rfl, zmem 79 rfl rfl, by decide, by decide +kernel, by decide +kernel, by decide +kernel, by decide +kernel, Or.inr (Or.inl ⟨rfl, zmem 476 rfl rfl, zmem 1 rfl rfl, rfl, by decide⟩)⟩
abbrev mX1_pointAsDreamer : ZM := (yX1_pointAsDreamer, cX1_pointAsDreamer, 3, (some .int), 1, 2, 1, 0, 0)
set_option maxRecDepth 100000 in
theorem gd_X1_pointAsDreamer : zgood mX1_pointAsDreamer := ⟨zmem 485 rfl rfl, zmem 79 rfl rfl, by decide, by decide +kernel, by decide +kernel, by decide +kernel, by decide +kernel, Or.inr (Or.inl ⟨rfl, zmem 484 rfl rfl, zmem 3 rfl rfl, rfl, by decide⟩)⟩
abbrev mX1_pointAsForeman : ZM := (yX1_pointAsForeman, cX1_pointAsForeman, 3, (some .int), 1, 2, 1, 0, 0)
set_option maxRecDepth 100000 in
theorem gd_X1_pointAsForeman : zgood mX1_pointAsForeman := ⟨zmem 492 rfl rfl, zmem 79 rfl rfl, by decide, by decide +kernel, by decide +kernel, by decide +kernel, by decide +kernel, Or.inr (Or.inl ⟨rfl, zmem 491 rfl rfl, zmem 4 rfl rfl, rfl, by decide⟩)⟩
abbrev mX1_turned : ZM := (yX1_turned, cX1_turned, 2, (some .int), 0, 2, 1, 0, 0)
set_option maxRecDepth 100000 in
theorem gd_X1_turned : zgood mX1_turned := ⟨zmem 488 rfl rfl, zmem 79 rfl rfl, by decide, by decide +kernel, by decide +kernel, by decide +kernel, by decide +kernel, Or.inl ⟨rfl, zmem 487 rfl rfl⟩⟩
abbrev mX1_weightOf : ZM := (yX1_weightOf, cX1_weightOf, 2, (some .int), 1, 2, 1, 0, 0)
set_option maxRecDepth 100000 in
theorem gd_X1_weightOf : zgood mX1_weightOf := ⟨zmem 496 rfl rfl, zmem 79 rfl rfl, by decide, by decide +kernel, by decide +kernel, by decide +kernel, by decide +kernel, Or.inr (Or.inl ⟨rfl, zmem 494 rfl rfl, zmem 495 rfl rfl, rfl, by decide⟩)⟩
abbrev mX1_earsOf : ZM := (yX1_earsOf, cX1_earsOf, 3, (some .int), 1, 3, 1, 0, 0)
set_option maxRecDepth 100000 in
theorem gd_X1_earsOf : zgood mX1_earsOf := ⟨zmem 500 rfl rfl, zmem 79 rfl rfl, by decide, by decide +kernel, by decide +kernel, by decide +kernel, by decide +kernel, Or.inr (Or.inl ⟨rfl, zmem 499 rfl rfl, zmem 5 rfl rfl, rfl, by decide⟩)⟩
abbrev mX2_init : ZM := (yX2_init, cX2_init, 2, none, 2, 1, 2, 7, 156)
set_option maxRecDepth 100000 in
theorem gd_X2_init : zgood mX2_init := ⟨zmem 105 rfl rfl, zmem 74 rfl rfl, by decide, by decide +kernel, by decide +kernel, by decide +kernel, by decide +kernel, Or.inr (Or.inr ⟨rfl, zmem 104 rfl rfl, rfl, rfl, by decide⟩)⟩
abbrev mX2_beside : ZM := (yX2_beside, cX2_beside, 4, (some .int), 0, 2, 2, 0, 0)
set_option maxRecDepth 100000 in
theorem gd_X2_beside : zgood mX2_beside := ⟨zmem 639 rfl rfl, zmem 74 rfl rfl, by decide, by decide +kernel, by decide +kernel, by decide +kernel, by decide +kernel, Or.inl ⟨rfl, zmem 638 rfl rfl⟩⟩
abbrev mX2_far : ZM := (yX2_far, cX2_far, 2, (some .int), 0, 2, 2, 0, 0)
set_option maxRecDepth 100000 in
theorem gd_X2_far : zgood mX2_far := ⟨zmem 652 rfl rfl, zmem 74 rfl rfl, by decide, by decide +kernel, by decide +kernel, by decide +kernel, by decide +kernel, Or.inl ⟨rfl, zmem 651 rfl rfl⟩⟩
abbrev mX2_gap : ZM := (yX2_gap, cX2_gap, 1, (some .int), 1, 1, 2, 0, 0)
set_option maxRecDepth 100000 in
theorem gd_X2_gap : zgood mX2_gap := ⟨zmem 649 rfl rfl, zmem 74 rfl rfl, by decide, by decide +kernel, by decide +kernel, by decide +kernel, by decide +kernel, Or.inr (Or.inl ⟨rfl, zmem 647 rfl rfl, zmem 648 rfl rfl, rfl, by decide⟩)⟩
abbrev mX2_headsAt : ZM := (yX2_headsAt, cX2_headsAt, 2, (some .int), 1, 2, 2, 0, 0)
set_option maxRecDepth 100000 in
theorem gd_X2_headsAt : zgood mX2_headsAt := ⟨zmem 434 rfl rfl, zmem 74 rfl rfl, by decide, by decide +kernel, by decide +kernel, by decide +kernel, by decide +kernel, Or.inr (Or.inl ⟨rfl, zmem 432 rfl rfl, zmem 433 rfl rfl, rfl, by decide⟩)⟩
abbrev mX2_settle : ZM := (yX2_settle, cX2_settle, 4, none, 1, 3, 2, 0, 0)
set_option maxRecDepth 100000 in
theorem gd_X2_settle : zgood mX2_settle := ⟨zmem 110 rfl rfl, zmem 74 rfl rfl, by decide, by decide +kernel, by decide +kernel, by decide +kernel, by decide +kernel, Or.inr (Or.inl ⟨rfl, zmem 108 rfl rfl, zmem 109 rfl rfl, rfl, by decide⟩)⟩
abbrev mX2_hears : ZM := (yX2_hears, cX2_hears, 2, (some .int), 1, 2, 2, 0, 0)
set_option maxRecDepth 100000 in
theorem gd_X2_hears : zgood mX2_hears := ⟨zmem 463 rfl rfl, zmem 74 rfl rfl, by decide, by decide +kernel, by decide +kernel, by decide +kernel, by decide +kernel, Or.inr (Or.inl ⟨rfl, zmem 461 rfl rfl, zmem 462 rfl rfl, rfl, by decide⟩)⟩
abbrev mX2_go : ZM := (yX2_go, cX2_go, 6, none, 1, 4, 2, 0, 0)
set_option maxRecDepth 100000 in
theorem gd_X2_go : zgood mX2_go := ⟨zmem 636 rfl rfl, zmem 74 rfl rfl, by decide, by decide +kernel, by decide +kernel, by decide +kernel, by decide +kernel, Or.inr (Or.inl ⟨rfl, zmem 634 rfl rfl, zmem 635 rfl rfl, rfl, by decide⟩)⟩
abbrev mX2_endYear : ZM := (yX2_endYear, cX2_endYear, 2, none, 1, 1, 2, 0, 0)
set_option maxRecDepth 100000 in
theorem gd_X2_endYear : zgood mX2_endYear := ⟨zmem 645 rfl rfl, zmem 74 rfl rfl, by decide, by decide +kernel, by decide +kernel, by decide +kernel, by decide +kernel, Or.inr (Or.inl ⟨rfl, zmem 643 rfl rfl, zmem 644 rfl rfl, rfl, by decide⟩)⟩
abbrev mX2_copyFrom : ZM := (yX2_copyFrom, cX2_copyFrom, 2, none, 1, 2, 2, 0, 0)
set_option maxRecDepth 100000 in
theorem gd_X2_copyFrom : zgood mX2_copyFrom := ⟨zmem 674 rfl rfl, zmem 74 rfl rfl, by decide, by decide +kernel, by decide +kernel, by decide +kernel, by decide +kernel, Or.inr (Or.inl ⟨rfl, zmem 672 rfl rfl, zmem 673 rfl rfl, rfl, by decide⟩)⟩
abbrev mX3_init : ZM := (yX3_init, cX3_init, 1, none, 2, 1, 3, 3, 102)
set_option maxRecDepth 100000 in
theorem gd_X3_init : zgood mX3_init := ⟨zmem 189 rfl rfl, zmem 76 rfl rfl, by decide, by decide +kernel, by decide +kernel, by decide +kernel, by decide +kernel, Or.inr (Or.inr ⟨rfl, zmem 188 rfl rfl, rfl, rfl, by decide⟩)⟩
abbrev mX3_gives : ZM := (yX3_gives, cX3_gives, 7, (some .int), 1, 4, 3, 0, 0)
set_option maxRecDepth 100000 in
theorem gd_X3_gives : zgood mX3_gives := ⟨zmem 504 rfl rfl, zmem 76 rfl rfl, by decide, by decide +kernel, by decide +kernel, by decide +kernel, by decide +kernel, Or.inr (Or.inl ⟨rfl, zmem 502 rfl rfl, zmem 503 rfl rfl, rfl, by decide⟩)⟩
abbrev mX3_operand : ZM := (yX3_operand, cX3_operand, 4, (some .int), 0, 4, 3, 0, 0)
set_option maxRecDepth 100000 in
theorem gd_X3_operand : zgood mX3_operand := ⟨zmem 507 rfl rfl, zmem 76 rfl rfl, by decide, by decide +kernel, by decide +kernel, by decide +kernel, by decide +kernel, Or.inl ⟨rfl, zmem 506 rfl rfl⟩⟩
abbrev mX3_joined : ZM := (yX3_joined, cX3_joined, 3, (some .int), 0, 3, 3, 0, 0)
set_option maxRecDepth 100000 in
theorem gd_X3_joined : zgood mX3_joined := ⟨zmem 510 rfl rfl, zmem 76 rfl rfl, by decide, by decide +kernel, by decide +kernel, by decide +kernel, by decide +kernel, Or.inl ⟨rfl, zmem 509 rfl rfl⟩⟩
abbrev mX4_init : ZM := (yX4_init, cX4_init, 2, none, 2, 2, 4, 2, 52)
set_option maxRecDepth 100000 in
theorem gd_X4_init : zgood mX4_init := ⟨zmem 301 rfl rfl, zmem 80 rfl rfl, by decide, by decide +kernel, by decide +kernel, by decide +kernel, by decide +kernel, Or.inr (Or.inr ⟨rfl, zmem 300 rfl rfl, rfl, rfl, by decide⟩)⟩
abbrev mX4_read : ZM := (yX4_read, cX4_read, 2, (some .int), 1, 2, 4, 0, 0)
set_option maxRecDepth 100000 in
theorem gd_X4_read : zgood mX4_read := ⟨zmem 569 rfl rfl, zmem 80 rfl rfl, by decide, by decide +kernel, by decide +kernel, by decide +kernel, by decide +kernel, Or.inr (Or.inl ⟨rfl, zmem 567 rfl rfl, zmem 568 rfl rfl, rfl, by decide⟩)⟩
abbrev mX4_readLevel : ZM := (yX4_readLevel, cX4_readLevel, 6, none, 1, 3, 4, 0, 0)
set_option maxRecDepth 100000 in
theorem gd_X4_readLevel : zgood mX4_readLevel := ⟨zmem 573 rfl rfl, zmem 80 rfl rfl, by decide, by decide +kernel, by decide +kernel, by decide +kernel, by decide +kernel, Or.inr (Or.inl ⟨rfl, zmem 572 rfl rfl, zmem 7 rfl rfl, rfl, by decide⟩)⟩
abbrev mX4_readUnit : ZM := (yX4_readUnit, cX4_readUnit, 3, none, 1, 2, 4, 0, 0)
set_option maxRecDepth 100000 in
theorem gd_X4_readUnit : zgood mX4_readUnit := ⟨zmem 577 rfl rfl, zmem 80 rfl rfl, by decide, by decide +kernel, by decide +kernel, by decide +kernel, by decide +kernel, Or.inr (Or.inl ⟨rfl, zmem 576 rfl rfl, zmem 8 rfl rfl, rfl, by decide⟩)⟩
abbrev mX4_readNumber : ZM := (yX4_readNumber, cX4_readNumber, 3, none, 1, 1, 4, 0, 0)
set_option maxRecDepth 100000 in
theorem gd_X4_readNumber : zgood mX4_readNumber := ⟨zmem 588 rfl rfl, zmem 80 rfl rfl, by decide, by decide +kernel, by decide +kernel, by decide +kernel, by decide +kernel, Or.inr (Or.inl ⟨rfl, zmem 587 rfl rfl, zmem 10 rfl rfl, rfl, by decide⟩)⟩
abbrev mX4_readClosing : ZM := (yX4_readClosing, cX4_readClosing, 1, none, 1, 1, 4, 0, 0)
set_option maxRecDepth 100000 in
theorem gd_X4_readClosing : zgood mX4_readClosing := ⟨zmem 599 rfl rfl, zmem 80 rfl rfl, by decide, by decide +kernel, by decide +kernel, by decide +kernel, by decide +kernel, Or.inr (Or.inl ⟨rfl, zmem 598 rfl rfl, zmem 12 rfl rfl, rfl, by decide⟩)⟩
abbrev mX4_next : ZM := (yX4_next, cX4_next, 1, (some .int), 1, 1, 4, 0, 0)
set_option maxRecDepth 100000 in
theorem gd_X4_next : zgood mX4_next := ⟨zmem 581 rfl rfl, zmem 80 rfl rfl, by decide, by decide +kernel, by decide +kernel, by decide +kernel, by decide +kernel, Or.inr (Or.inl ⟨rfl, zmem 580 rfl rfl, zmem 9 rfl rfl, rfl, by decide⟩)⟩
abbrev mX4_failHere : ZM := (yX4_failHere, cX4_failHere, 1, none, 1, 1, 4, 0, 0)
set_option maxRecDepth 100000 in
theorem gd_X4_failHere : zgood mX4_failHere := ⟨zmem 603 rfl rfl, zmem 80 rfl rfl, by decide, by decide +kernel, by decide +kernel, by decide +kernel, by decide +kernel, Or.inr (Or.inl ⟨rfl, zmem 602 rfl rfl, zmem 13 rfl rfl, rfl, by decide⟩)⟩
abbrev mX4_isDigit : ZM := (yX4_isDigit, cX4_isDigit, 1, (some .boolean), 0, 1, 4, 0, 0)
set_option maxRecDepth 100000 in
theorem gd_X4_isDigit : zgood mX4_isDigit := ⟨zmem 584 rfl rfl, zmem 80 rfl rfl, by decide, by decide +kernel, by decide +kernel, by decide +kernel, by decide +kernel, Or.inl ⟨rfl, zmem 583 rfl rfl⟩⟩
abbrev mX4_nameOf : ZM := (yX4_nameOf, cX4_nameOf, 3, (some .int), 1, 2, 4, 0, 0)
set_option maxRecDepth 100000 in
theorem gd_X4_nameOf : zgood mX4_nameOf := ⟨zmem 593 rfl rfl, zmem 80 rfl rfl, by decide, by decide +kernel, by decide +kernel, by decide +kernel, by decide +kernel, Or.inr (Or.inl ⟨rfl, zmem 592 rfl rfl, zmem 11 rfl rfl, rfl, by decide⟩)⟩
abbrev mX4_levelOf : ZM := (yX4_levelOf, cX4_levelOf, 1, (some .int), 0, 1, 4, 0, 0)
set_option maxRecDepth 100000 in
theorem gd_X4_levelOf : zgood mX4_levelOf := ⟨zmem 606 rfl rfl, zmem 80 rfl rfl, by decide, by decide +kernel, by decide +kernel, by decide +kernel, by decide +kernel, Or.inl ⟨rfl, zmem 605 rfl rfl⟩⟩
abbrev mX5_init : ZM := (yX5_init, cX5_init, 2, none, 2, 2, 5, 1, 50)
set_option maxRecDepth 100000 in
theorem gd_X5_init : zgood mX5_init := ⟨zmem 195 rfl rfl, zmem 77 rfl rfl, by decide, by decide +kernel, by decide +kernel, by decide +kernel, by decide +kernel, Or.inr (Or.inr ⟨rfl, zmem 194 rfl rfl, rfl, rfl, by decide⟩)⟩
abbrev mX5_add : ZM := (yX5_add, cX5_add, 2, (some .boolean), 1, 2, 5, 0, 0)
set_option maxRecDepth 100000 in
theorem gd_X5_add : zgood mX5_add := ⟨zmem 561 rfl rfl, zmem 77 rfl rfl, by decide, by decide +kernel, by decide +kernel, by decide +kernel, by decide +kernel, Or.inr (Or.inl ⟨rfl, zmem 559 rfl rfl, zmem 560 rfl rfl, rfl, by decide⟩)⟩
abbrev mX5_copyFrom : ZM := (yX5_copyFrom, cX5_copyFrom, 2, none, 1, 2, 5, 0, 0)
set_option maxRecDepth 100000 in
theorem gd_X5_copyFrom : zgood mX5_copyFrom := ⟨zmem 614 rfl rfl, zmem 77 rfl rfl, by decide, by decide +kernel, by decide +kernel, by decide +kernel, by decide +kernel, Or.inr (Or.inl ⟨rfl, zmem 612 rfl rfl, zmem 613 rfl rfl, rfl, by decide⟩)⟩
abbrev mX6_init : ZM := (yX6_init, cX6_init, 1, none, 2, 1, 6, 24, 506)
set_option maxRecDepth 100000 in
theorem gd_X6_init : zgood mX6_init := ⟨zmem 99 rfl rfl, zmem 73 rfl rfl, by decide, by decide +kernel, by decide +kernel, by decide +kernel, by decide +kernel, Or.inr (Or.inr ⟨rfl, zmem 98 rfl rfl, rfl, rfl, by decide⟩)⟩
abbrev mX6_lawOf : ZM := (yX6_lawOf, cX6_lawOf, 2, (some (.object "TunnelHearsay$Law")), 1, 2, 6, 0, 0)
set_option maxRecDepth 100000 in
theorem gd_X6_lawOf : zgood mX6_lawOf := ⟨zmem 610 rfl rfl, zmem 73 rfl rfl, by decide, by decide +kernel, by decide +kernel, by decide +kernel, by decide +kernel, Or.inr (Or.inl ⟨rfl, zmem 608 rfl rfl, zmem 609 rfl rfl, rfl, by decide⟩)⟩
abbrev mX6_draw : ZM := (yX6_draw, cX6_draw, 1, (some .int), 1, 1, 6, 0, 0)
set_option maxRecDepth 100000 in
theorem gd_X6_draw : zgood mX6_draw := ⟨zmem 661 rfl rfl, zmem 73 rfl rfl, by decide, by decide +kernel, by decide +kernel, by decide +kernel, by decide +kernel, Or.inr (Or.inl ⟨rfl, zmem 659 rfl rfl, zmem 660 rfl rfl, rfl, by decide⟩)⟩
abbrev mX6_copyFrom : ZM := (yX6_copyFrom, cX6_copyFrom, 2, none, 1, 2, 6, 0, 0)
set_option maxRecDepth 100000 in
theorem gd_X6_copyFrom : zgood mX6_copyFrom := ⟨zmem 852 rfl rfl, zmem 73 rfl rfl, by decide, by decide +kernel, by decide +kernel, by decide +kernel, by decide +kernel, Or.inr (Or.inl ⟨rfl, zmem 850 rfl rfl, zmem 851 rfl rfl, rfl, by decide⟩)⟩
abbrev mX7_init : ZM := (yX7_init, cX7_init, 1, none, 2, 1, 7, 1, 40)
set_option maxRecDepth 100000 in
theorem gd_X7_init : zgood mX7_init := ⟨zmem 368 rfl rfl, zmem 83 rfl rfl, by decide, by decide +kernel, by decide +kernel, by decide +kernel, by decide +kernel, Or.inr (Or.inr ⟨rfl, zmem 367 rfl rfl, rfl, rfl, by decide⟩)⟩
abbrev mX7_begin : ZM := (yX7_begin, cX7_begin, 3, none, 1, 3, 7, 0, 0)
set_option maxRecDepth 100000 in
theorem gd_X7_begin : zgood mX7_begin := ⟨zmem 817 rfl rfl, zmem 83 rfl rfl, by decide, by decide +kernel, by decide +kernel, by decide +kernel, by decide +kernel, Or.inr (Or.inl ⟨rfl, zmem 815 rfl rfl, zmem 816 rfl rfl, rfl, by decide⟩)⟩
abbrev mX7_write : ZM := (yX7_write, cX7_write, 3, none, 1, 3, 7, 0, 0)
set_option maxRecDepth 100000 in
theorem gd_X7_write : zgood mX7_write := ⟨zmem 826 rfl rfl, zmem 83 rfl rfl, by decide, by decide +kernel, by decide +kernel, by decide +kernel, by decide +kernel, Or.inr (Or.inl ⟨rfl, zmem 824 rfl rfl, zmem 825 rfl rfl, rfl, by decide⟩)⟩
abbrev mX7_holds : ZM := (yX7_holds, cX7_holds, 3, (some .boolean), 1, 3, 7, 0, 0)
set_option maxRecDepth 100000 in
theorem gd_X7_holds : zgood mX7_holds := ⟨zmem 834 rfl rfl, zmem 83 rfl rfl, by decide, by decide +kernel, by decide +kernel, by decide +kernel, by decide +kernel, Or.inr (Or.inl ⟨rfl, zmem 832 rfl rfl, zmem 833 rfl rfl, rfl, by decide⟩)⟩
abbrev mX8_init : ZM := (yX8_init, cX8_init, 1, none, 2, 1, 8, 2, 52)
set_option maxRecDepth 100000 in
theorem gd_X8_init : zgood mX8_init := ⟨zmem 345 rfl rfl, zmem 82 rfl rfl, by decide, by decide +kernel, by decide +kernel, by decide +kernel, by decide +kernel, Or.inr (Or.inr ⟨rfl, zmem 344 rfl rfl, rfl, rfl, by decide⟩)⟩
abbrev mX8_speak : ZM := (yX8_speak, cX8_speak, 5, (some .int), 1, 5, 8, 0, 0)
set_option maxRecDepth 100000 in
theorem gd_X8_speak : zgood mX8_speak := ⟨zmem 793 rfl rfl, zmem 82 rfl rfl, by decide, by decide +kernel, by decide +kernel, by decide +kernel, by decide +kernel, Or.inr (Or.inl ⟨rfl, zmem 791 rfl rfl, zmem 792 rfl rfl, rfl, by decide⟩)⟩
abbrev mX8_say : ZM := (yX8_say, cX8_say, 8, (some .int), 1, 5, 8, 0, 0)
set_option maxRecDepth 100000 in
theorem gd_X8_say : zgood mX8_say := ⟨zmem 797 rfl rfl, zmem 82 rfl rfl, by decide, by decide +kernel, by decide +kernel, by decide +kernel, by decide +kernel, Or.inr (Or.inl ⟨rfl, zmem 796 rfl rfl, zmem 22 rfl rfl, rfl, by decide⟩)⟩
abbrev mX8_bodyOf : ZM := (yX8_bodyOf, cX8_bodyOf, 5, (some .int), 1, 5, 8, 0, 0)
set_option maxRecDepth 100000 in
theorem gd_X8_bodyOf : zgood mX8_bodyOf := ⟨zmem 805 rfl rfl, zmem 82 rfl rfl, by decide, by decide +kernel, by decide +kernel, by decide +kernel, by decide +kernel, Or.inr (Or.inl ⟨rfl, zmem 804 rfl rfl, zmem 23 rfl rfl, rfl, by decide⟩)⟩
abbrev mX9_init : ZM := (yX9_init, cX9_init, 2, none, 2, 2, 9, 3, 192)
set_option maxRecDepth 100000 in
theorem gd_X9_init : zgood mX9_init := ⟨zmem 326 rfl rfl, zmem 81 rfl rfl, by decide, by decide +kernel, by decide +kernel, by decide +kernel, by decide +kernel, Or.inr (Or.inr ⟨rfl, zmem 325 rfl rfl, rfl, rfl, by decide⟩)⟩
abbrev mX9_leastRock : ZM := (yX9_leastRock, cX9_leastRock, 7, (some .int), 1, 3, 9, 0, 0)
set_option maxRecDepth 100000 in
theorem gd_X9_leastRock : zgood mX9_leastRock := ⟨zmem 725 rfl rfl, zmem 81 rfl rfl, by decide, by decide +kernel, by decide +kernel, by decide +kernel, by decide +kernel, Or.inr (Or.inl ⟨rfl, zmem 723 rfl rfl, zmem 724 rfl rfl, rfl, by decide⟩)⟩
abbrev mX9_toll : ZM := (yX9_toll, cX9_toll, 2, (some .int), 1, 2, 9, 0, 0)
set_option maxRecDepth 100000 in
theorem gd_X9_toll : zgood mX9_toll := ⟨zmem 731 rfl rfl, zmem 81 rfl rfl, by decide, by decide +kernel, by decide +kernel, by decide +kernel, by decide +kernel, Or.inr (Or.inl ⟨rfl, zmem 730 rfl rfl, zmem 17 rfl rfl, rfl, by decide⟩)⟩
abbrev mX9_cheapest : ZM := (yX9_cheapest, cX9_cheapest, 4, (some .int), 1, 1, 9, 0, 0)
set_option maxRecDepth 100000 in
theorem gd_X9_cheapest : zgood mX9_cheapest := ⟨zmem 735 rfl rfl, zmem 81 rfl rfl, by decide, by decide +kernel, by decide +kernel, by decide +kernel, by decide +kernel, Or.inr (Or.inl ⟨rfl, zmem 734 rfl rfl, zmem 18 rfl rfl, rfl, by decide⟩)⟩
abbrev mX9_fewestWays : ZM := (yX9_fewestWays, cX9_fewestWays, 3, (some .int), 1, 3, 9, 0, 0)
set_option maxRecDepth 100000 in
theorem gd_X9_fewestWays : zgood mX9_fewestWays := ⟨zmem 745 rfl rfl, zmem 81 rfl rfl, by decide, by decide +kernel, by decide +kernel, by decide +kernel, by decide +kernel, Or.inr (Or.inl ⟨rfl, zmem 743 rfl rfl, zmem 744 rfl rfl, rfl, by decide⟩)⟩
abbrev mX9_partsDug : ZM := (yX9_partsDug, cX9_partsDug, 3, (some .int), 1, 1, 9, 0, 0)
set_option maxRecDepth 100000 in
theorem gd_X9_partsDug : zgood mX9_partsDug := ⟨zmem 774 rfl rfl, zmem 81 rfl rfl, by decide, by decide +kernel, by decide +kernel, by decide +kernel, by decide +kernel, Or.inr (Or.inl ⟨rfl, zmem 772 rfl rfl, zmem 773 rfl rfl, rfl, by decide⟩)⟩
abbrev mX9_flood : ZM := (yX9_flood, cX9_flood, 7, none, 1, 2, 9, 0, 0)
set_option maxRecDepth 100000 in
theorem gd_X9_flood : zgood mX9_flood := ⟨zmem 749 rfl rfl, zmem 81 rfl rfl, by decide, by decide +kernel, by decide +kernel, by decide +kernel, by decide +kernel, Or.inr (Or.inl ⟨rfl, zmem 748 rfl rfl, zmem 19 rfl rfl, rfl, by decide⟩)⟩
abbrev mX9_isDug : ZM := (yX9_isDug, cX9_isDug, 2, (some .boolean), 1, 2, 9, 0, 0)
set_option maxRecDepth 100000 in
theorem gd_X9_isDug : zgood mX9_isDug := ⟨zmem 753 rfl rfl, zmem 81 rfl rfl, by decide, by decide +kernel, by decide +kernel, by decide +kernel, by decide +kernel, Or.inr (Or.inl ⟨rfl, zmem 752 rfl rfl, zmem 20 rfl rfl, rfl, by decide⟩)⟩
abbrev mX9_alongLeft : ZM := (yX9_alongLeft, cX9_alongLeft, 8, (some .int), 1, 4, 9, 0, 0)
set_option maxRecDepth 100000 in
theorem gd_X9_alongLeft : zgood mX9_alongLeft := ⟨zmem 762 rfl rfl, zmem 81 rfl rfl, by decide, by decide +kernel, by decide +kernel, by decide +kernel, by decide +kernel, Or.inr (Or.inl ⟨rfl, zmem 760 rfl rfl, zmem 761 rfl rfl, rfl, by decide⟩)⟩
abbrev mX9_wayAlongLeft : ZM := (yX9_wayAlongLeft, cX9_wayAlongLeft, 5, (some .int), 1, 3, 9, 0, 0)
set_option maxRecDepth 100000 in
theorem gd_X9_wayAlongLeft : zgood mX9_wayAlongLeft := ⟨zmem 766 rfl rfl, zmem 81 rfl rfl, by decide, by decide +kernel, by decide +kernel, by decide +kernel, by decide +kernel, Or.inr (Or.inl ⟨rfl, zmem 765 rfl rfl, zmem 21 rfl rfl, rfl, by decide⟩)⟩
abbrev mX10_init : ZM := (yX10_init, cX10_init, 2, none, 2, 1, 10, 86, 1739)
set_option maxRecDepth 100000 in
theorem gd_X10_init : zgood mX10_init := ⟨zmem 91 rfl rfl, zmem 72 rfl rfl, by decide, by decide +kernel, by decide +kernel, by decide +kernel, by decide +kernel, Or.inr (Or.inr ⟨rfl, zmem 90 rfl rfl, rfl, rfl, by decide⟩)⟩
abbrev mX10_rock : ZM := (yX10_rock, cX10_rock, 4, (some .int), 1, 3, 10, 0, 0)
set_option maxRecDepth 100000 in
theorem gd_X10_rock : zgood mX10_rock := ⟨zmem 417 rfl rfl, zmem 72 rfl rfl, by decide, by decide +kernel, by decide +kernel, by decide +kernel, by decide +kernel, Or.inr (Or.inl ⟨rfl, zmem 415 rfl rfl, zmem 416 rfl rfl, rfl, by decide⟩)⟩
abbrev mX10_dig : ZM := (yX10_dig, cX10_dig, 4, (some .int), 1, 3, 10, 0, 0)
set_option maxRecDepth 100000 in
theorem gd_X10_dig : zgood mX10_dig := ⟨zmem 430 rfl rfl, zmem 72 rfl rfl, by decide, by decide +kernel, by decide +kernel, by decide +kernel, by decide +kernel, Or.inr (Or.inl ⟨rfl, zmem 428 rfl rfl, zmem 429 rfl rfl, rfl, by decide⟩)⟩
abbrev mX10_ofCell : ZM := (yX10_ofCell, cX10_ofCell, 3, (some .int), 1, 3, 10, 0, 0)
set_option maxRecDepth 100000 in
theorem gd_X10_ofCell : zgood mX10_ofCell := ⟨zmem 439 rfl rfl, zmem 72 rfl rfl, by decide, by decide +kernel, by decide +kernel, by decide +kernel, by decide +kernel, Or.inr (Or.inl ⟨rfl, zmem 437 rfl rfl, zmem 438 rfl rfl, rfl, by decide⟩)⟩
abbrev mX10_head : ZM := (yX10_head, cX10_head, 6, (some .int), 1, 4, 10, 0, 0)
set_option maxRecDepth 100000 in
theorem gd_X10_head : zgood mX10_head := ⟨zmem 443 rfl rfl, zmem 72 rfl rfl, by decide, by decide +kernel, by decide +kernel, by decide +kernel, by decide +kernel, Or.inr (Or.inl ⟨rfl, zmem 441 rfl rfl, zmem 442 rfl rfl, rfl, by decide⟩)⟩
abbrev mX10_mostOfHead : ZM := (yX10_mostOfHead, cX10_mostOfHead, 1, (some .int), 0, 1, 10, 0, 0)
set_option maxRecDepth 100000 in
theorem gd_X10_mostOfHead : zgood mX10_mostOfHead := ⟨zmem 446 rfl rfl, zmem 72 rfl rfl, by decide, by decide +kernel, by decide +kernel, by decide +kernel, by decide +kernel, Or.inl ⟨rfl, zmem 445 rfl rfl⟩⟩
abbrev mX10_ofHead : ZM := (yX10_ofHead, cX10_ofHead, 3, (some .int), 1, 3, 10, 0, 0)
set_option maxRecDepth 100000 in
theorem gd_X10_ofHead : zgood mX10_ofHead := ⟨zmem 451 rfl rfl, zmem 72 rfl rfl, by decide, by decide +kernel, by decide +kernel, by decide +kernel, by decide +kernel, Or.inr (Or.inl ⟨rfl, zmem 449 rfl rfl, zmem 450 rfl rfl, rfl, by decide⟩)⟩
abbrev mX10_delay : ZM := (yX10_delay, cX10_delay, 3, (some .int), 1, 2, 10, 0, 0)
set_option maxRecDepth 100000 in
theorem gd_X10_delay : zgood mX10_delay := ⟨zmem 519 rfl rfl, zmem 72 rfl rfl, by decide, by decide +kernel, by decide +kernel, by decide +kernel, by decide +kernel, Or.inr (Or.inl ⟨rfl, zmem 517 rfl rfl, zmem 518 rfl rfl, rfl, by decide⟩)⟩
abbrev mX10_engineer : ZM := (yX10_engineer, cX10_engineer, 4, (some .int), 1, 3, 10, 0, 0)
set_option maxRecDepth 100000 in
theorem gd_X10_engineer : zgood mX10_engineer := ⟨zmem 523 rfl rfl, zmem 72 rfl rfl, by decide, by decide +kernel, by decide +kernel, by decide +kernel, by decide +kernel, Or.inr (Or.inl ⟨rfl, zmem 521 rfl rfl, zmem 522 rfl rfl, rfl, by decide⟩)⟩
abbrev mX10_ofEngineer : ZM := (yX10_ofEngineer, cX10_ofEngineer, 3, (some .int), 1, 3, 10, 0, 0)
set_option maxRecDepth 100000 in
theorem gd_X10_ofEngineer : zgood mX10_ofEngineer := ⟨zmem 528 rfl rfl, zmem 72 rfl rfl, by decide, by decide +kernel, by decide +kernel, by decide +kernel, by decide +kernel, Or.inr (Or.inl ⟨rfl, zmem 526 rfl rfl, zmem 527 rfl rfl, rfl, by decide⟩)⟩
abbrev mX10_change : ZM := (yX10_change, cX10_change, 4, (some .int), 1, 3, 10, 0, 0)
set_option maxRecDepth 100000 in
theorem gd_X10_change : zgood mX10_change := ⟨zmem 539 rfl rfl, zmem 72 rfl rfl, by decide, by decide +kernel, by decide +kernel, by decide +kernel, by decide +kernel, Or.inr (Or.inl ⟨rfl, zmem 537 rfl rfl, zmem 538 rfl rfl, rfl, by decide⟩)⟩
abbrev mX10_become : ZM := (yX10_become, cX10_become, 4, (some .int), 1, 3, 10, 0, 0)
set_option maxRecDepth 100000 in
theorem gd_X10_become : zgood mX10_become := ⟨zmem 543 rfl rfl, zmem 72 rfl rfl, by decide, by decide +kernel, by decide +kernel, by decide +kernel, by decide +kernel, Or.inr (Or.inl ⟨rfl, zmem 541 rfl rfl, zmem 542 rfl rfl, rfl, by decide⟩)⟩
abbrev mX10_as : ZM := (yX10_as, cX10_as, 3, (some .int), 1, 3, 10, 0, 0)
set_option maxRecDepth 100000 in
theorem gd_X10_as : zgood mX10_as := ⟨zmem 547 rfl rfl, zmem 72 rfl rfl, by decide, by decide +kernel, by decide +kernel, by decide +kernel, by decide +kernel, Or.inr (Or.inl ⟨rfl, zmem 545 rfl rfl, zmem 546 rfl rfl, rfl, by decide⟩)⟩
abbrev mX10_feed : ZM := (yX10_feed, cX10_feed, 5, (some .int), 1, 3, 10, 0, 0)
set_option maxRecDepth 100000 in
theorem gd_X10_feed : zgood mX10_feed := ⟨zmem 557 rfl rfl, zmem 72 rfl rfl, by decide, by decide +kernel, by decide +kernel, by decide +kernel, by decide +kernel, Or.inr (Or.inl ⟨rfl, zmem 555 rfl rfl, zmem 556 rfl rfl, rfl, by decide⟩)⟩
abbrev mX10_text : ZM := (yX10_text, cX10_text, 3, (some .int), 1, 2, 10, 0, 0)
set_option maxRecDepth 100000 in
theorem gd_X10_text : zgood mX10_text := ⟨zmem 565 rfl rfl, zmem 72 rfl rfl, by decide, by decide +kernel, by decide +kernel, by decide +kernel, by decide +kernel, Or.inr (Or.inl ⟨rfl, zmem 563 rfl rfl, zmem 564 rfl rfl, rfl, by decide⟩)⟩
abbrev mX10_law : ZM := (yX10_law, cX10_law, 5, (some .int), 1, 5, 10, 0, 0)
set_option maxRecDepth 100000 in
theorem gd_X10_law : zgood mX10_law := ⟨zmem 622 rfl rfl, zmem 72 rfl rfl, by decide, by decide +kernel, by decide +kernel, by decide +kernel, by decide +kernel, Or.inr (Or.inl ⟨rfl, zmem 620 rfl rfl, zmem 621 rfl rfl, rfl, by decide⟩)⟩
abbrev mX10_years : ZM := (yX10_years, cX10_years, 3, (some .int), 1, 2, 10, 0, 0)
set_option maxRecDepth 100000 in
theorem gd_X10_years : zgood mX10_years := ⟨zmem 627 rfl rfl, zmem 72 rfl rfl, by decide, by decide +kernel, by decide +kernel, by decide +kernel, by decide +kernel, Or.inr (Or.inl ⟨rfl, zmem 625 rfl rfl, zmem 626 rfl rfl, rfl, by decide⟩)⟩
abbrev mX10_loose : ZM := (yX10_loose, cX10_loose, 4, (some .int), 1, 2, 10, 0, 0)
set_option maxRecDepth 100000 in
theorem gd_X10_loose : zgood mX10_loose := ⟨zmem 657 rfl rfl, zmem 72 rfl rfl, by decide, by decide +kernel, by decide +kernel, by decide +kernel, by decide +kernel, Or.inr (Or.inl ⟨rfl, zmem 655 rfl rfl, zmem 656 rfl rfl, rfl, by decide⟩)⟩
abbrev mX10_then : ZM := (yX10_then, cX10_then, 4, (some .int), 1, 4, 10, 0, 0)
set_option maxRecDepth 100000 in
theorem gd_X10_then : zgood mX10_then := ⟨zmem 666 rfl rfl, zmem 72 rfl rfl, by decide, by decide +kernel, by decide +kernel, by decide +kernel, by decide +kernel, Or.inr (Or.inl ⟨rfl, zmem 664 rfl rfl, zmem 665 rfl rfl, rfl, by decide⟩)⟩
abbrev mX10_meets : ZM := (yX10_meets, cX10_meets, 2, (some .int), 1, 1, 10, 0, 0)
set_option maxRecDepth 100000 in
theorem gd_X10_meets : zgood mX10_meets := ⟨zmem 688 rfl rfl, zmem 72 rfl rfl, by decide, by decide +kernel, by decide +kernel, by decide +kernel, by decide +kernel, Or.inr (Or.inl ⟨rfl, zmem 686 rfl rfl, zmem 687 rfl rfl, rfl, by decide⟩)⟩
abbrev mX10_apart : ZM := (yX10_apart, cX10_apart, 2, (some .int), 1, 2, 10, 0, 0)
set_option maxRecDepth 100000 in
theorem gd_X10_apart : zgood mX10_apart := ⟨zmem 693 rfl rfl, zmem 72 rfl rfl, by decide, by decide +kernel, by decide +kernel, by decide +kernel, by decide +kernel, Or.inr (Or.inl ⟨rfl, zmem 691 rfl rfl, zmem 692 rfl rfl, rfl, by decide⟩)⟩
abbrev mX10_delayFor : ZM := (yX10_delayFor, cX10_delayFor, 6, (some .int), 1, 2, 10, 0, 0)
set_option maxRecDepth 100000 in
theorem gd_X10_delayFor : zgood mX10_delayFor := ⟨zmem 697 rfl rfl, zmem 72 rfl rfl, by decide, by decide +kernel, by decide +kernel, by decide +kernel, by decide +kernel, Or.inr (Or.inl ⟨rfl, zmem 695 rfl rfl, zmem 696 rfl rfl, rfl, by decide⟩)⟩
abbrev mX10_powerFor : ZM := (yX10_powerFor, cX10_powerFor, 5, (some .int), 1, 4, 10, 0, 0)
set_option maxRecDepth 100000 in
theorem gd_X10_powerFor : zgood mX10_powerFor := ⟨zmem 701 rfl rfl, zmem 72 rfl rfl, by decide, by decide +kernel, by decide +kernel, by decide +kernel, by decide +kernel, Or.inr (Or.inl ⟨rfl, zmem 699 rfl rfl, zmem 700 rfl rfl, rfl, by decide⟩)⟩
abbrev mX10_needless : ZM := (yX10_needless, cX10_needless, 5, (some .int), 1, 2, 10, 0, 0)
set_option maxRecDepth 100000 in
theorem gd_X10_needless : zgood mX10_needless := ⟨zmem 705 rfl rfl, zmem 72 rfl rfl, by decide, by decide +kernel, by decide +kernel, by decide +kernel, by decide +kernel, Or.inr (Or.inl ⟨rfl, zmem 703 rfl rfl, zmem 704 rfl rfl, rfl, by decide⟩)⟩
abbrev mX10_heard : ZM := (yX10_heard, cX10_heard, 7, (some .int), 1, 4, 10, 0, 0)
set_option maxRecDepth 100000 in
theorem gd_X10_heard : zgood mX10_heard := ⟨zmem 709 rfl rfl, zmem 72 rfl rfl, by decide, by decide +kernel, by decide +kernel, by decide +kernel, by decide +kernel, Or.inr (Or.inl ⟨rfl, zmem 707 rfl rfl, zmem 708 rfl rfl, rfl, by decide⟩)⟩
abbrev mX10_which : ZM := (yX10_which, cX10_which, 5, (some .int), 1, 3, 10, 0, 0)
set_option maxRecDepth 100000 in
theorem gd_X10_which : zgood mX10_which := ⟨zmem 717 rfl rfl, zmem 72 rfl rfl, by decide, by decide +kernel, by decide +kernel, by decide +kernel, by decide +kernel, Or.inr (Or.inl ⟨rfl, zmem 715 rfl rfl, zmem 716 rfl rfl, rfl, by decide⟩)⟩
abbrev mX10_join : ZM := (yX10_join, cX10_join, 3, (some .int), 1, 3, 10, 0, 0)
set_option maxRecDepth 100000 in
theorem gd_X10_join : zgood mX10_join := ⟨zmem 721 rfl rfl, zmem 72 rfl rfl, by decide, by decide +kernel, by decide +kernel, by decide +kernel, by decide +kernel, Or.inr (Or.inl ⟨rfl, zmem 719 rfl rfl, zmem 720 rfl rfl, rfl, by decide⟩)⟩
abbrev mX10_steps : ZM := (yX10_steps, cX10_steps, 4, (some .int), 1, 3, 10, 0, 0)
set_option maxRecDepth 100000 in
theorem gd_X10_steps : zgood mX10_steps := ⟨zmem 741 rfl rfl, zmem 72 rfl rfl, by decide, by decide +kernel, by decide +kernel, by decide +kernel, by decide +kernel, Or.inr (Or.inl ⟨rfl, zmem 739 rfl rfl, zmem 740 rfl rfl, rfl, by decide⟩)⟩
abbrev mX10_hand : ZM := (yX10_hand, cX10_hand, 4, (some .int), 1, 4, 10, 0, 0)
set_option maxRecDepth 100000 in
theorem gd_X10_hand : zgood mX10_hand := ⟨zmem 758 rfl rfl, zmem 72 rfl rfl, by decide, by decide +kernel, by decide +kernel, by decide +kernel, by decide +kernel, Or.inr (Or.inl ⟨rfl, zmem 756 rfl rfl, zmem 757 rfl rfl, rfl, by decide⟩)⟩
abbrev mX10_parts : ZM := (yX10_parts, cX10_parts, 1, (some .int), 1, 1, 10, 0, 0)
set_option maxRecDepth 100000 in
theorem gd_X10_parts : zgood mX10_parts := ⟨zmem 770 rfl rfl, zmem 72 rfl rfl, by decide, by decide +kernel, by decide +kernel, by decide +kernel, by decide +kernel, Or.inr (Or.inl ⟨rfl, zmem 768 rfl rfl, zmem 769 rfl rfl, rfl, by decide⟩)⟩
abbrev mX10_odds : ZM := (yX10_odds, cX10_odds, 7, (some .int), 1, 4, 10, 0, 0)
set_option maxRecDepth 100000 in
theorem gd_X10_odds : zgood mX10_odds := ⟨zmem 778 rfl rfl, zmem 72 rfl rfl, by decide, by decide +kernel, by decide +kernel, by decide +kernel, by decide +kernel, Or.inr (Or.inl ⟨rfl, zmem 776 rfl rfl, zmem 777 rfl rfl, rfl, by decide⟩)⟩
abbrev mX10_seed : ZM := (yX10_seed, cX10_seed, 3, (some .int), 1, 2, 10, 0, 0)
set_option maxRecDepth 100000 in
theorem gd_X10_seed : zgood mX10_seed := ⟨zmem 785 rfl rfl, zmem 72 rfl rfl, by decide, by decide +kernel, by decide +kernel, by decide +kernel, by decide +kernel, Or.inr (Or.inl ⟨rfl, zmem 783 rfl rfl, zmem 784 rfl rfl, rfl, by decide⟩)⟩
abbrev mX10_voice : ZM := (yX10_voice, cX10_voice, 4, (some .int), 1, 4, 10, 0, 0)
set_option maxRecDepth 100000 in
theorem gd_X10_voice : zgood mX10_voice := ⟨zmem 789 rfl rfl, zmem 72 rfl rfl, by decide, by decide +kernel, by decide +kernel, by decide +kernel, by decide +kernel, Or.inr (Or.inl ⟨rfl, zmem 787 rfl rfl, zmem 788 rfl rfl, rfl, by decide⟩)⟩
abbrev mX10_trace : ZM := (yX10_trace, cX10_trace, 2, (some .int), 1, 2, 10, 0, 0)
set_option maxRecDepth 100000 in
theorem gd_X10_trace : zgood mX10_trace := ⟨zmem 809 rfl rfl, zmem 72 rfl rfl, by decide, by decide +kernel, by decide +kernel, by decide +kernel, by decide +kernel, Or.inr (Or.inl ⟨rfl, zmem 807 rfl rfl, zmem 808 rfl rfl, rfl, by decide⟩)⟩
abbrev mX10_sheet : ZM := (yX10_sheet, cX10_sheet, 4, (some .int), 1, 4, 10, 0, 0)
set_option maxRecDepth 100000 in
theorem gd_X10_sheet : zgood mX10_sheet := ⟨zmem 813 rfl rfl, zmem 72 rfl rfl, by decide, by decide +kernel, by decide +kernel, by decide +kernel, by decide +kernel, Or.inr (Or.inl ⟨rfl, zmem 811 rfl rfl, zmem 812 rfl rfl, rfl, by decide⟩)⟩
abbrev mX10_put : ZM := (yX10_put, cX10_put, 4, (some .int), 1, 4, 10, 0, 0)
set_option maxRecDepth 100000 in
theorem gd_X10_put : zgood mX10_put := ⟨zmem 822 rfl rfl, zmem 72 rfl rfl, by decide, by decide +kernel, by decide +kernel, by decide +kernel, by decide +kernel, Or.inr (Or.inl ⟨rfl, zmem 820 rfl rfl, zmem 821 rfl rfl, rfl, by decide⟩)⟩
abbrev mX10_move : ZM := (yX10_move, cX10_move, 8, (some .int), 1, 6, 10, 0, 0)
set_option maxRecDepth 100000 in
theorem gd_X10_move : zgood mX10_move := ⟨zmem 830 rfl rfl, zmem 72 rfl rfl, by decide, by decide +kernel, by decide +kernel, by decide +kernel, by decide +kernel, Or.inr (Or.inl ⟨rfl, zmem 828 rfl rfl, zmem 829 rfl rfl, rfl, by decide⟩)⟩
abbrev mX10_rocks : ZM := (yX10_rocks, cX10_rocks, 4, (some .int), 1, 2, 10, 0, 0)
set_option maxRecDepth 100000 in
theorem gd_X10_rocks : zgood mX10_rocks := ⟨zmem 839 rfl rfl, zmem 72 rfl rfl, by decide, by decide +kernel, by decide +kernel, by decide +kernel, by decide +kernel, Or.inr (Or.inl ⟨rfl, zmem 837 rfl rfl, zmem 838 rfl rfl, rfl, by decide⟩)⟩
abbrev mX10_judge : ZM := (yX10_judge, cX10_judge, 5, (some .int), 1, 2, 10, 0, 0)
set_option maxRecDepth 100000 in
theorem gd_X10_judge : zgood mX10_judge := ⟨zmem 843 rfl rfl, zmem 72 rfl rfl, by decide, by decide +kernel, by decide +kernel, by decide +kernel, by decide +kernel, Or.inr (Or.inl ⟨rfl, zmem 841 rfl rfl, zmem 842 rfl rfl, rfl, by decide⟩)⟩
abbrev mX10_image : ZM := (yX10_image, cX10_image, 1, (some .int), 1, 1, 10, 0, 0)
set_option maxRecDepth 100000 in
theorem gd_X10_image : zgood mX10_image := ⟨zmem 848 rfl rfl, zmem 72 rfl rfl, by decide, by decide +kernel, by decide +kernel, by decide +kernel, by decide +kernel, Or.inr (Or.inl ⟨rfl, zmem 846 rfl rfl, zmem 847 rfl rfl, rfl, by decide⟩)⟩
abbrev mX10_restore : ZM := (yX10_restore, cX10_restore, 1, (some .int), 1, 1, 10, 0, 0)
set_option maxRecDepth 100000 in
theorem gd_X10_restore : zgood mX10_restore := ⟨zmem 859 rfl rfl, zmem 72 rfl rfl, by decide, by decide +kernel, by decide +kernel, by decide +kernel, by decide +kernel, Or.inr (Or.inl ⟨rfl, zmem 857 rfl rfl, zmem 858 rfl rfl, rfl, by decide⟩)⟩
abbrev mX10_tell : ZM := (yX10_tell, cX10_tell, 2, (some .int), 1, 2, 10, 0, 0)
set_option maxRecDepth 100000 in
theorem gd_X10_tell : zgood mX10_tell := ⟨zmem 863 rfl rfl, zmem 72 rfl rfl, by decide, by decide +kernel, by decide +kernel, by decide +kernel, by decide +kernel, Or.inr (Or.inl ⟨rfl, zmem 861 rfl rfl, zmem 862 rfl rfl, rfl, by decide⟩)⟩
abbrev mX10_check : ZM := (yX10_check, cX10_check, 3, (some .int), 1, 1, 10, 0, 0)
set_option maxRecDepth 100000 in
theorem gd_X10_check : zgood mX10_check := ⟨zmem 867 rfl rfl, zmem 72 rfl rfl, by decide, by decide +kernel, by decide +kernel, by decide +kernel, by decide +kernel, Or.inr (Or.inl ⟨rfl, zmem 865 rfl rfl, zmem 866 rfl rfl, rfl, by decide⟩)⟩
abbrev mX10_count : ZM := (yX10_count, cX10_count, 2, (some .int), 1, 2, 10, 0, 0)
set_option maxRecDepth 100000 in
theorem gd_X10_count : zgood mX10_count := ⟨zmem 871 rfl rfl, zmem 72 rfl rfl, by decide, by decide +kernel, by decide +kernel, by decide +kernel, by decide +kernel, Or.inr (Or.inl ⟨rfl, zmem 869 rfl rfl, zmem 870 rfl rfl, rfl, by decide⟩)⟩
abbrev mX10_told : ZM := (yX10_told, cX10_told, 2, (some .int), 1, 2, 10, 0, 0)
set_option maxRecDepth 100000 in
theorem gd_X10_told : zgood mX10_told := ⟨zmem 878 rfl rfl, zmem 72 rfl rfl, by decide, by decide +kernel, by decide +kernel, by decide +kernel, by decide +kernel, Or.inr (Or.inl ⟨rfl, zmem 876 rfl rfl, zmem 877 rfl rfl, rfl, by decide⟩)⟩
abbrev mX10_failed : ZM := (yX10_failed, cX10_failed, 2, (some .int), 1, 2, 10, 0, 0)
set_option maxRecDepth 100000 in
theorem gd_X10_failed : zgood mX10_failed := ⟨zmem 425 rfl rfl, zmem 72 rfl rfl, by decide, by decide +kernel, by decide +kernel, by decide +kernel, by decide +kernel, Or.inr (Or.inl ⟨rfl, zmem 424 rfl rfl, zmem 0 rfl rfl, rfl, by decide⟩)⟩
abbrev mX10_isBeyond : ZM := (yX10_isBeyond, cX10_isBeyond, 2, (some .boolean), 0, 2, 10, 0, 0)
set_option maxRecDepth 100000 in
theorem gd_X10_isBeyond : zgood mX10_isBeyond := ⟨zmem 420 rfl rfl, zmem 72 rfl rfl, by decide, by decide +kernel, by decide +kernel, by decide +kernel, by decide +kernel, Or.inl ⟨rfl, zmem 419 rfl rfl⟩⟩
abbrev mX10_isNobody : ZM := (yX10_isNobody, cX10_isNobody, 2, (some .boolean), 1, 2, 10, 0, 0)
set_option maxRecDepth 100000 in
theorem gd_X10_isNobody : zgood mX10_isNobody := ⟨zmem 532 rfl rfl, zmem 72 rfl rfl, by decide, by decide +kernel, by decide +kernel, by decide +kernel, by decide +kernel, Or.inr (Or.inl ⟨rfl, zmem 531 rfl rfl, zmem 6 rfl rfl, rfl, by decide⟩)⟩
abbrev mX10_think : ZM := (yX10_think, cX10_think, 1, none, 1, 1, 10, 0, 0)
set_option maxRecDepth 100000 in
theorem gd_X10_think : zgood mX10_think := ⟨zmem 670 rfl rfl, zmem 72 rfl rfl, by decide, by decide +kernel, by decide +kernel, by decide +kernel, by decide +kernel, Or.inr (Or.inl ⟨rfl, zmem 669 rfl rfl, zmem 14 rfl rfl, rfl, by decide⟩)⟩
abbrev mX10_gapBehind : ZM := (yX10_gapBehind, cX10_gapBehind, 3, (some .int), 1, 2, 10, 0, 0)
set_option maxRecDepth 100000 in
theorem gd_X10_gapBehind : zgood mX10_gapBehind := ⟨zmem 684 rfl rfl, zmem 72 rfl rfl, by decide, by decide +kernel, by decide +kernel, by decide +kernel, by decide +kernel, Or.inr (Or.inl ⟨rfl, zmem 683 rfl rfl, zmem 15 rfl rfl, rfl, by decide⟩)⟩
abbrev mX10_goesAsTold : ZM := (yX10_goesAsTold, cX10_goesAsTold, 4, (some .boolean), 1, 3, 10, 0, 0)
set_option maxRecDepth 100000 in
theorem gd_X10_goesAsTold : zgood mX10_goesAsTold := ⟨zmem 713 rfl rfl, zmem 72 rfl rfl, by decide, by decide +kernel, by decide +kernel, by decide +kernel, by decide +kernel, Or.inr (Or.inl ⟨rfl, zmem 712 rfl rfl, zmem 16 rfl rfl, rfl, by decide⟩)⟩
abbrev mX10_sharedFactor : ZM := (yX10_sharedFactor, cX10_sharedFactor, 3, (some .int), 0, 2, 10, 0, 0)
set_option maxRecDepth 100000 in
theorem gd_X10_sharedFactor : zgood mX10_sharedFactor := ⟨zmem 781 rfl rfl, zmem 72 rfl rfl, by decide, by decide +kernel, by decide +kernel, by decide +kernel, by decide +kernel, Or.inl ⟨rfl, zmem 780 rfl rfl⟩⟩
abbrev mX10_sumOf : ZM := (yX10_sumOf, cX10_sumOf, 4, (some .int), 0, 2, 10, 0, 0)
set_option maxRecDepth 100000 in
theorem gd_X10_sumOf : zgood mX10_sumOf := ⟨zmem 874 rfl rfl, zmem 72 rfl rfl, by decide, by decide +kernel, by decide +kernel, by decide +kernel, by decide +kernel, Or.inl ⟨rfl, zmem 873 rfl rfl⟩⟩
abbrev mX11_init : ZM := (yX11_init, cX11_init, 2, none, 2, 1, 11, 14, 1407)
set_option maxRecDepth 100000 in
theorem gd_X11_init : zgood mX11_init := ⟨zmem 883 rfl rfl, zmem 84 rfl rfl, by decide, by decide +kernel, by decide +kernel, by decide +kernel, by decide +kernel, Or.inr (Or.inr ⟨rfl, zmem 882 rfl rfl, rfl, rfl, by decide⟩)⟩
abbrev mX11_finds : ZM := (yX11_finds, cX11_finds, 2, (some .int), 1, 2, 11, 0, 0)
set_option maxRecDepth 100000 in
theorem gd_X11_finds : zgood mX11_finds := ⟨zmem 976 rfl rfl, zmem 84 rfl rfl, by decide, by decide +kernel, by decide +kernel, by decide +kernel, by decide +kernel, Or.inr (Or.inl ⟨rfl, zmem 975 rfl rfl, zmem 25 rfl rfl, rfl, by decide⟩)⟩
abbrev mX11_in : ZM := (yX11_in, cX11_in, 6, (some .boolean), 0, 3, 11, 0, 0)
set_option maxRecDepth 100000 in
theorem gd_X11_in : zgood mX11_in := ⟨zmem 972 rfl rfl, zmem 84 rfl rfl, by decide, by decide +kernel, by decide +kernel, by decide +kernel, by decide +kernel, Or.inl ⟨rfl, zmem 971 rfl rfl⟩⟩
abbrev mX11_held : ZM := (yX11_held, cX11_held, 3, (some .int), 0, 3, 11, 0, 0)
set_option maxRecDepth 100000 in
theorem gd_X11_held : zgood mX11_held := ⟨zmem 1054 rfl rfl, zmem 84 rfl rfl, by decide, by decide +kernel, by decide +kernel, by decide +kernel, by decide +kernel, Or.inl ⟨rfl, zmem 1053 rfl rfl⟩⟩
abbrev mX11_size : ZM := (yX11_size, cX11_size, 1, (some .int), 0, 1, 11, 0, 0)
set_option maxRecDepth 100000 in
theorem gd_X11_size : zgood mX11_size := ⟨zmem 1117 rfl rfl, zmem 84 rfl rfl, by decide, by decide +kernel, by decide +kernel, by decide +kernel, by decide +kernel, Or.inl ⟨rfl, zmem 1116 rfl rfl⟩⟩
abbrev mX11_isEngineer : ZM := (yX11_isEngineer, cX11_isEngineer, 2, (some .boolean), 1, 2, 11, 0, 0)
set_option maxRecDepth 100000 in
theorem gd_X11_isEngineer : zgood mX11_isEngineer := ⟨zmem 1155 rfl rfl, zmem 84 rfl rfl, by decide, by decide +kernel, by decide +kernel, by decide +kernel, by decide +kernel, Or.inr (Or.inl ⟨rfl, zmem 1154 rfl rfl, zmem 51 rfl rfl, rfl, by decide⟩)⟩
abbrev mX11_isCell : ZM := (yX11_isCell, cX11_isCell, 1, (some .boolean), 0, 1, 11, 0, 0)
set_option maxRecDepth 100000 in
theorem gd_X11_isCell : zgood mX11_isCell := ⟨zmem 1061 rfl rfl, zmem 84 rfl rfl, by decide, by decide +kernel, by decide +kernel, by decide +kernel, by decide +kernel, Or.inl ⟨rfl, zmem 1060 rfl rfl⟩⟩
abbrev mX11_isHead : ZM := (yX11_isHead, cX11_isHead, 1, (some .boolean), 0, 1, 11, 0, 0)
set_option maxRecDepth 100000 in
theorem gd_X11_isHead : zgood mX11_isHead := ⟨zmem 1091 rfl rfl, zmem 84 rfl rfl, by decide, by decide +kernel, by decide +kernel, by decide +kernel, by decide +kernel, Or.inl ⟨rfl, zmem 1090 rfl rfl⟩⟩
abbrev mX11_of : ZM := (yX11_of, cX11_of, 3, (some .int), 1, 3, 11, 0, 0)
set_option maxRecDepth 100000 in
theorem gd_X11_of : zgood mX11_of := ⟨zmem 1106 rfl rfl, zmem 84 rfl rfl, by decide, by decide +kernel, by decide +kernel, by decide +kernel, by decide +kernel, Or.inr (Or.inl ⟨rfl, zmem 1105 rfl rfl, zmem 45 rfl rfl, rfl, by decide⟩)⟩
abbrev mX11_its : ZM := (yX11_its, cX11_its, 3, (some .int), 1, 3, 11, 0, 0)
set_option maxRecDepth 100000 in
theorem gd_X11_its : zgood mX11_its := ⟨zmem 1079 rfl rfl, zmem 84 rfl rfl, by decide, by decide +kernel, by decide +kernel, by decide +kernel, by decide +kernel, Or.inr (Or.inl ⟨rfl, zmem 1078 rfl rfl, zmem 43 rfl rfl, rfl, by decide⟩)⟩
abbrev mX11_above : ZM := (yX11_above, cX11_above, 1, (some .int), 0, 1, 11, 0, 0)
set_option maxRecDepth 100000 in
theorem gd_X11_above : zgood mX11_above := ⟨zmem 1172 rfl rfl, zmem 84 rfl rfl, by decide, by decide +kernel, by decide +kernel, by decide +kernel, by decide +kernel, Or.inl ⟨rfl, zmem 1171 rfl rfl⟩⟩
abbrev mX11_becomes : ZM := (yX11_becomes, cX11_becomes, 4, (some .int), 1, 3, 11, 0, 0)
set_option maxRecDepth 100000 in
theorem gd_X11_becomes : zgood mX11_becomes := ⟨zmem 1067 rfl rfl, zmem 84 rfl rfl, by decide, by decide +kernel, by decide +kernel, by decide +kernel, by decide +kernel, Or.inr (Or.inl ⟨rfl, zmem 1066 rfl rfl, zmem 41 rfl rfl, rfl, by decide⟩)⟩
abbrev mX11_keepAside : ZM := (yX11_keepAside, cX11_keepAside, 2, none, 1, 1, 11, 0, 0)
set_option maxRecDepth 100000 in
theorem gd_X11_keepAside : zgood mX11_keepAside := ⟨zmem 1225 rfl rfl, zmem 84 rfl rfl, by decide, by decide +kernel, by decide +kernel, by decide +kernel, by decide +kernel, Or.inr (Or.inl ⟨rfl, zmem 1224 rfl rfl, zmem 58 rfl rfl, rfl, by decide⟩)⟩
abbrev mX11_putBack : ZM := (yX11_putBack, cX11_putBack, 2, none, 1, 1, 11, 0, 0)
set_option maxRecDepth 100000 in
theorem gd_X11_putBack : zgood mX11_putBack := ⟨zmem 1229 rfl rfl, zmem 84 rfl rfl, by decide, by decide +kernel, by decide +kernel, by decide +kernel, by decide +kernel, Or.inr (Or.inl ⟨rfl, zmem 1228 rfl rfl, zmem 59 rfl rfl, rfl, by decide⟩)⟩
abbrev mX11_here : ZM := (yX11_here, cX11_here, 1, (some .int), 1, 1, 11, 0, 0)
set_option maxRecDepth 100000 in
theorem gd_X11_here : zgood mX11_here := ⟨zmem 1014 rfl rfl, zmem 84 rfl rfl, by decide, by decide +kernel, by decide +kernel, by decide +kernel, by decide +kernel, Or.inr (Or.inl ⟨rfl, zmem 1013 rfl rfl, zmem 33 rfl rfl, rfl, by decide⟩)⟩
abbrev mX11_wrong : ZM := (yX11_wrong, cX11_wrong, 1, none, 1, 1, 11, 0, 0)
set_option maxRecDepth 100000 in
theorem gd_X11_wrong : zgood mX11_wrong := ⟨zmem 1022 rfl rfl, zmem 84 rfl rfl, by decide, by decide +kernel, by decide +kernel, by decide +kernel, by decide +kernel, Or.inr (Or.inl ⟨rfl, zmem 1021 rfl rfl, zmem 35 rfl rfl, rfl, by decide⟩)⟩
abbrev mX11_takes : ZM := (yX11_takes, cX11_takes, 2, (some .boolean), 1, 2, 11, 0, 0)
set_option maxRecDepth 100000 in
theorem gd_X11_takes : zgood mX11_takes := ⟨zmem 1030 rfl rfl, zmem 84 rfl rfl, by decide, by decide +kernel, by decide +kernel, by decide +kernel, by decide +kernel, Or.inr (Or.inl ⟨rfl, zmem 1029 rfl rfl, zmem 37 rfl rfl, rfl, by decide⟩)⟩
abbrev mX11_nameOf : ZM := (yX11_nameOf, cX11_nameOf, 2, (some .int), 1, 2, 11, 0, 0)
set_option maxRecDepth 100000 in
theorem gd_X11_nameOf : zgood mX11_nameOf := ⟨zmem 1034 rfl rfl, zmem 84 rfl rfl, by decide, by decide +kernel, by decide +kernel, by decide +kernel, by decide +kernel, Or.inr (Or.inl ⟨rfl, zmem 1033 rfl rfl, zmem 38 rfl rfl, rfl, by decide⟩)⟩
abbrev mX11_lay : ZM := (yX11_lay, cX11_lay, 2, none, 1, 2, 11, 0, 0)
set_option maxRecDepth 100000 in
theorem gd_X11_lay : zgood mX11_lay := ⟨zmem 1026 rfl rfl, zmem 84 rfl rfl, by decide, by decide +kernel, by decide +kernel, by decide +kernel, by decide +kernel, Or.inr (Or.inl ⟨rfl, zmem 1025 rfl rfl, zmem 36 rfl rfl, rfl, by decide⟩)⟩
abbrev mX11_either : ZM := (yX11_either, cX11_either, 1, none, 1, 1, 11, 0, 0)
set_option maxRecDepth 100000 in
theorem gd_X11_either : zgood mX11_either := ⟨zmem 990 rfl rfl, zmem 84 rfl rfl, by decide, by decide +kernel, by decide +kernel, by decide +kernel, by decide +kernel, Or.inr (Or.inl ⟨rfl, zmem 989 rfl rfl, zmem 27 rfl rfl, rfl, by decide⟩)⟩
abbrev mX11_both : ZM := (yX11_both, cX11_both, 1, none, 1, 1, 11, 0, 0)
set_option maxRecDepth 100000 in
theorem gd_X11_both : zgood mX11_both := ⟨zmem 994 rfl rfl, zmem 84 rfl rfl, by decide, by decide +kernel, by decide +kernel, by decide +kernel, by decide +kernel, Or.inr (Or.inl ⟨rfl, zmem 993 rfl rfl, zmem 28 rfl rfl, rfl, by decide⟩)⟩
abbrev mX11_compared : ZM := (yX11_compared, cX11_compared, 2, none, 1, 1, 11, 0, 0)
set_option maxRecDepth 100000 in
theorem gd_X11_compared : zgood mX11_compared := ⟨zmem 998 rfl rfl, zmem 84 rfl rfl, by decide, by decide +kernel, by decide +kernel, by decide +kernel, by decide +kernel, Or.inr (Or.inl ⟨rfl, zmem 997 rfl rfl, zmem 29 rfl rfl, rfl, by decide⟩)⟩
abbrev mX11_sum : ZM := (yX11_sum, cX11_sum, 2, none, 1, 1, 11, 0, 0)
set_option maxRecDepth 100000 in
theorem gd_X11_sum : zgood mX11_sum := ⟨zmem 1002 rfl rfl, zmem 84 rfl rfl, by decide, by decide +kernel, by decide +kernel, by decide +kernel, by decide +kernel, Or.inr (Or.inl ⟨rfl, zmem 1001 rfl rfl, zmem 30 rfl rfl, rfl, by decide⟩)⟩
abbrev mX11_product : ZM := (yX11_product, cX11_product, 2, none, 1, 1, 11, 0, 0)
set_option maxRecDepth 100000 in
theorem gd_X11_product : zgood mX11_product := ⟨zmem 1006 rfl rfl, zmem 84 rfl rfl, by decide, by decide +kernel, by decide +kernel, by decide +kernel, by decide +kernel, Or.inr (Or.inl ⟨rfl, zmem 1005 rfl rfl, zmem 31 rfl rfl, rfl, by decide⟩)⟩
abbrev mX11_opens : ZM := (yX11_opens, cX11_opens, 2, none, 1, 2, 11, 0, 0)
set_option maxRecDepth 100000 in
theorem gd_X11_opens : zgood mX11_opens := ⟨zmem 1018 rfl rfl, zmem 84 rfl rfl, by decide, by decide +kernel, by decide +kernel, by decide +kernel, by decide +kernel, Or.inr (Or.inl ⟨rfl, zmem 1017 rfl rfl, zmem 34 rfl rfl, rfl, by decide⟩)⟩
abbrev mX11_unit : ZM := (yX11_unit, cX11_unit, 5, none, 1, 1, 11, 0, 0)
set_option maxRecDepth 100000 in
theorem gd_X11_unit : zgood mX11_unit := ⟨zmem 1010 rfl rfl, zmem 84 rfl rfl, by decide, by decide +kernel, by decide +kernel, by decide +kernel, by decide +kernel, Or.inr (Or.inl ⟨rfl, zmem 1009 rfl rfl, zmem 32 rfl rfl, rfl, by decide⟩)⟩
abbrev mX11_reads : ZM := (yX11_reads, cX11_reads, 4, none, 1, 4, 11, 0, 0)
set_option maxRecDepth 100000 in
theorem gd_X11_reads : zgood mX11_reads := ⟨zmem 986 rfl rfl, zmem 84 rfl rfl, by decide, by decide +kernel, by decide +kernel, by decide +kernel, by decide +kernel, Or.inr (Or.inl ⟨rfl, zmem 985 rfl rfl, zmem 26 rfl rfl, rfl, by decide⟩)⟩
abbrev mX11_done : ZM := (yX11_done, cX11_done, 3, (some .int), 0, 3, 11, 0, 0)
set_option maxRecDepth 100000 in
theorem gd_X11_done : zgood mX11_done := ⟨zmem 1051 rfl rfl, zmem 84 rfl rfl, by decide, by decide +kernel, by decide +kernel, by decide +kernel, by decide +kernel, Or.inl ⟨rfl, zmem 1050 rfl rfl⟩⟩
abbrev mX11_worked : ZM := (yX11_worked, cX11_worked, 6, (some .int), 1, 3, 11, 0, 0)
set_option maxRecDepth 100000 in
theorem gd_X11_worked : zgood mX11_worked := ⟨zmem 1048 rfl rfl, zmem 84 rfl rfl, by decide, by decide +kernel, by decide +kernel, by decide +kernel, by decide +kernel, Or.inr (Or.inl ⟨rfl, zmem 1047 rfl rfl, zmem 40 rfl rfl, rfl, by decide⟩)⟩
abbrev mX11_feed : ZM := (yX11_feed, cX11_feed, 5, (some .int), 1, 3, 11, 0, 0)
set_option maxRecDepth 100000 in
theorem gd_X11_feed : zgood mX11_feed := ⟨zmem 968 rfl rfl, zmem 84 rfl rfl, by decide, by decide +kernel, by decide +kernel, by decide +kernel, by decide +kernel, Or.inr (Or.inl ⟨rfl, zmem 966 rfl rfl, zmem 967 rfl rfl, rfl, by decide⟩)⟩
abbrev mX11_text : ZM := (yX11_text, cX11_text, 4, (some .int), 1, 2, 11, 0, 0)
set_option maxRecDepth 100000 in
theorem gd_X11_text : zgood mX11_text := ⟨zmem 982 rfl rfl, zmem 84 rfl rfl, by decide, by decide +kernel, by decide +kernel, by decide +kernel, by decide +kernel, Or.inr (Or.inl ⟨rfl, zmem 980 rfl rfl, zmem 981 rfl rfl, rfl, by decide⟩)⟩
abbrev mX11_textGives : ZM := (yX11_textGives, cX11_textGives, 6, (some .int), 1, 5, 11, 0, 0)
set_option maxRecDepth 100000 in
theorem gd_X11_textGives : zgood mX11_textGives := ⟨zmem 1044 rfl rfl, zmem 84 rfl rfl, by decide, by decide +kernel, by decide +kernel, by decide +kernel, by decide +kernel, Or.inr (Or.inl ⟨rfl, zmem 1043 rfl rfl, zmem 39 rfl rfl, rfl, by decide⟩)⟩
abbrev mX11_law : ZM := (yX11_law, cX11_law, 5, (some .int), 1, 5, 11, 0, 0)
set_option maxRecDepth 100000 in
theorem gd_X11_law : zgood mX11_law := ⟨zmem 1040 rfl rfl, zmem 84 rfl rfl, by decide, by decide +kernel, by decide +kernel, by decide +kernel, by decide +kernel, Or.inr (Or.inl ⟨rfl, zmem 1038 rfl rfl, zmem 1039 rfl rfl, rfl, by decide⟩)⟩
abbrev mX11_far : ZM := (yX11_far, cX11_far, 2, (some .int), 0, 2, 11, 0, 0)
set_option maxRecDepth 100000 in
theorem gd_X11_far : zgood mX11_far := ⟨zmem 1127 rfl rfl, zmem 84 rfl rfl, by decide, by decide +kernel, by decide +kernel, by decide +kernel, by decide +kernel, Or.inl ⟨rfl, zmem 1126 rfl rfl⟩⟩
abbrev mX11_beside : ZM := (yX11_beside, cX11_beside, 2, (some .int), 0, 2, 11, 0, 0)
set_option maxRecDepth 100000 in
theorem gd_X11_beside : zgood mX11_beside := ⟨zmem 1200 rfl rfl, zmem 84 rfl rfl, by decide, by decide +kernel, by decide +kernel, by decide +kernel, by decide +kernel, Or.inl ⟨rfl, zmem 1199 rfl rfl⟩⟩
abbrev mX11_heads : ZM := (yX11_heads, cX11_heads, 1, (some .int), 1, 1, 11, 0, 0)
set_option maxRecDepth 100000 in
theorem gd_X11_heads : zgood mX11_heads := ⟨zmem 1193 rfl rfl, zmem 84 rfl rfl, by decide, by decide +kernel, by decide +kernel, by decide +kernel, by decide +kernel, Or.inr (Or.inl ⟨rfl, zmem 1192 rfl rfl, zmem 55 rfl rfl, rfl, by decide⟩)⟩
abbrev mX11_isPut : ZM := (yX11_isPut, cX11_isPut, 4, none, 1, 3, 11, 0, 0)
set_option maxRecDepth 100000 in
theorem gd_X11_isPut : zgood mX11_isPut := ⟨zmem 888 rfl rfl, zmem 84 rfl rfl, by decide, by decide +kernel, by decide +kernel, by decide +kernel, by decide +kernel, Or.inr (Or.inl ⟨rfl, zmem 887 rfl rfl, zmem 24 rfl rfl, rfl, by decide⟩)⟩
abbrev mX11_heardBy : ZM := (yX11_heardBy, cX11_heardBy, 2, (some .int), 1, 2, 11, 0, 0)
set_option maxRecDepth 100000 in
theorem gd_X11_heardBy : zgood mX11_heardBy := ⟨zmem 1114 rfl rfl, zmem 84 rfl rfl, by decide, by decide +kernel, by decide +kernel, by decide +kernel, by decide +kernel, Or.inr (Or.inl ⟨rfl, zmem 1113 rfl rfl, zmem 47 rfl rfl, rfl, by decide⟩)⟩
abbrev mX11_farHeard : ZM := (yX11_farHeard, cX11_farHeard, 3, (some .int), 1, 2, 11, 0, 0)
set_option maxRecDepth 100000 in
theorem gd_X11_farHeard : zgood mX11_farHeard := ⟨zmem 1124 rfl rfl, zmem 84 rfl rfl, by decide, by decide +kernel, by decide +kernel, by decide +kernel, by decide +kernel, Or.inr (Or.inl ⟨rfl, zmem 1123 rfl rfl, zmem 48 rfl rfl, rfl, by decide⟩)⟩
abbrev mX11_turned : ZM := (yX11_turned, cX11_turned, 2, (some .int), 0, 2, 11, 0, 0)
set_option maxRecDepth 100000 in
theorem gd_X11_turned : zgood mX11_turned := ⟨zmem 1120 rfl rfl, zmem 84 rfl rfl, by decide, by decide +kernel, by decide +kernel, by decide +kernel, by decide +kernel, Or.inl ⟨rfl, zmem 1119 rfl rfl⟩⟩
abbrev mX11_points : ZM := (yX11_points, cX11_points, 11, (some .int), 1, 2, 11, 0, 0)
set_option maxRecDepth 100000 in
theorem gd_X11_points : zgood mX11_points := ⟨zmem 1110 rfl rfl, zmem 84 rfl rfl, by decide, by decide +kernel, by decide +kernel, by decide +kernel, by decide +kernel, Or.inr (Or.inl ⟨rfl, zmem 1109 rfl rfl, zmem 46 rfl rfl, rfl, by decide⟩)⟩
abbrev mX11_earsOf : ZM := (yX11_earsOf, cX11_earsOf, 3, (some .int), 1, 2, 11, 0, 0)
set_option maxRecDepth 100000 in
theorem gd_X11_earsOf : zgood mX11_earsOf := ⟨zmem 1135 rfl rfl, zmem 84 rfl rfl, by decide, by decide +kernel, by decide +kernel, by decide +kernel, by decide +kernel, Or.inr (Or.inl ⟨rfl, zmem 1134 rfl rfl, zmem 50 rfl rfl, rfl, by decide⟩)⟩
abbrev mX11_gives : ZM := (yX11_gives, cX11_gives, 2, (some .int), 1, 2, 11, 0, 0)
set_option maxRecDepth 100000 in
theorem gd_X11_gives : zgood mX11_gives := ⟨zmem 1131 rfl rfl, zmem 84 rfl rfl, by decide, by decide +kernel, by decide +kernel, by decide +kernel, by decide +kernel, Or.inr (Or.inl ⟨rfl, zmem 1130 rfl rfl, zmem 49 rfl rfl, rfl, by decide⟩)⟩
abbrev mX11_hearkens : ZM := (yX11_hearkens, cX11_hearkens, 7, (some .int), 1, 2, 11, 0, 0)
set_option maxRecDepth 100000 in
theorem gd_X11_hearkens : zgood mX11_hearkens := ⟨zmem 1102 rfl rfl, zmem 84 rfl rfl, by decide, by decide +kernel, by decide +kernel, by decide +kernel, by decide +kernel, Or.inr (Or.inl ⟨rfl, zmem 1101 rfl rfl, zmem 44 rfl rfl, rfl, by decide⟩)⟩
abbrev mX11_goes : ZM := (yX11_goes, cX11_goes, 5, none, 1, 3, 11, 0, 0)
set_option maxRecDepth 100000 in
theorem gd_X11_goes : zgood mX11_goes := ⟨zmem 1197 rfl rfl, zmem 84 rfl rfl, by decide, by decide +kernel, by decide +kernel, by decide +kernel, by decide +kernel, Or.inr (Or.inl ⟨rfl, zmem 1196 rfl rfl, zmem 56 rfl rfl, rfl, by decide⟩)⟩
abbrev mX11_yearGoes : ZM := (yX11_yearGoes, cX11_yearGoes, 5, none, 1, 1, 11, 0, 0)
set_option maxRecDepth 100000 in
theorem gd_X11_yearGoes : zgood mX11_yearGoes := ⟨zmem 1189 rfl rfl, zmem 84 rfl rfl, by decide, by decide +kernel, by decide +kernel, by decide +kernel, by decide +kernel, Or.inr (Or.inl ⟨rfl, zmem 1188 rfl rfl, zmem 54 rfl rfl, rfl, by decide⟩)⟩
abbrev mX11_yearsGo : ZM := (yX11_yearsGo, cX11_yearsGo, 3, none, 1, 2, 11, 0, 0)
set_option maxRecDepth 100000 in
theorem gd_X11_yearsGo : zgood mX11_yearsGo := ⟨zmem 1185 rfl rfl, zmem 84 rfl rfl, by decide, by decide +kernel, by decide +kernel, by decide +kernel, by decide +kernel, Or.inr (Or.inl ⟨rfl, zmem 1184 rfl rfl, zmem 53 rfl rfl, rfl, by decide⟩)⟩
abbrev mX11_rock : ZM := (yX11_rock, cX11_rock, 3, (some .int), 1, 3, 11, 0, 0)
set_option maxRecDepth 100000 in
theorem gd_X11_rock : zgood mX11_rock := ⟨zmem 1058 rfl rfl, zmem 84 rfl rfl, by decide, by decide +kernel, by decide +kernel, by decide +kernel, by decide +kernel, Or.inr (Or.inl ⟨rfl, zmem 1056 rfl rfl, zmem 1057 rfl rfl, rfl, by decide⟩)⟩
abbrev mX11_headsAt : ZM := (yX11_headsAt, cX11_headsAt, 2, (some .int), 1, 2, 11, 0, 0)
set_option maxRecDepth 100000 in
theorem gd_X11_headsAt : zgood mX11_headsAt := ⟨zmem 1075 rfl rfl, zmem 84 rfl rfl, by decide, by decide +kernel, by decide +kernel, by decide +kernel, by decide +kernel, Or.inr (Or.inl ⟨rfl, zmem 1074 rfl rfl, zmem 42 rfl rfl, rfl, by decide⟩)⟩
abbrev mX11_dig : ZM := (yX11_dig, cX11_dig, 3, (some .int), 1, 3, 11, 0, 0)
set_option maxRecDepth 100000 in
theorem gd_X11_dig : zgood mX11_dig := ⟨zmem 1071 rfl rfl, zmem 84 rfl rfl, by decide, by decide +kernel, by decide +kernel, by decide +kernel, by decide +kernel, Or.inr (Or.inl ⟨rfl, zmem 1069 rfl rfl, zmem 1070 rfl rfl, rfl, by decide⟩)⟩
abbrev mX11_ofCell : ZM := (yX11_ofCell, cX11_ofCell, 3, (some .int), 1, 3, 11, 0, 0)
set_option maxRecDepth 100000 in
theorem gd_X11_ofCell : zgood mX11_ofCell := ⟨zmem 1083 rfl rfl, zmem 84 rfl rfl, by decide, by decide +kernel, by decide +kernel, by decide +kernel, by decide +kernel, Or.inr (Or.inl ⟨rfl, zmem 1081 rfl rfl, zmem 1082 rfl rfl, rfl, by decide⟩)⟩
abbrev mX11_head : ZM := (yX11_head, cX11_head, 5, (some .int), 1, 4, 11, 0, 0)
set_option maxRecDepth 100000 in
theorem gd_X11_head : zgood mX11_head := ⟨zmem 1088 rfl rfl, zmem 84 rfl rfl, by decide, by decide +kernel, by decide +kernel, by decide +kernel, by decide +kernel, Or.inr (Or.inl ⟨rfl, zmem 1086 rfl rfl, zmem 1087 rfl rfl, rfl, by decide⟩)⟩
abbrev mX11_ofHead : ZM := (yX11_ofHead, cX11_ofHead, 3, (some .int), 1, 3, 11, 0, 0)
set_option maxRecDepth 100000 in
theorem gd_X11_ofHead : zgood mX11_ofHead := ⟨zmem 1097 rfl rfl, zmem 84 rfl rfl, by decide, by decide +kernel, by decide +kernel, by decide +kernel, by decide +kernel, Or.inr (Or.inl ⟨rfl, zmem 1095 rfl rfl, zmem 1096 rfl rfl, rfl, by decide⟩)⟩
abbrev mX11_delay : ZM := (yX11_delay, cX11_delay, 2, (some .int), 1, 2, 11, 0, 0)
set_option maxRecDepth 100000 in
theorem gd_X11_delay : zgood mX11_delay := ⟨zmem 1139 rfl rfl, zmem 84 rfl rfl, by decide, by decide +kernel, by decide +kernel, by decide +kernel, by decide +kernel, Or.inr (Or.inl ⟨rfl, zmem 1137 rfl rfl, zmem 1138 rfl rfl, rfl, by decide⟩)⟩
abbrev mX11_isKm : ZM := (yX11_isKm, cX11_isKm, 1, (some .boolean), 0, 1, 11, 0, 0)
set_option maxRecDepth 100000 in
theorem gd_X11_isKm : zgood mX11_isKm := ⟨zmem 1146 rfl rfl, zmem 84 rfl rfl, by decide, by decide +kernel, by decide +kernel, by decide +kernel, by decide +kernel, Or.inl ⟨rfl, zmem 1145 rfl rfl⟩⟩
abbrev mX11_engineer : ZM := (yX11_engineer, cX11_engineer, 4, (some .int), 1, 3, 11, 0, 0)
set_option maxRecDepth 100000 in
theorem gd_X11_engineer : zgood mX11_engineer := ⟨zmem 1143 rfl rfl, zmem 84 rfl rfl, by decide, by decide +kernel, by decide +kernel, by decide +kernel, by decide +kernel, Or.inr (Or.inl ⟨rfl, zmem 1141 rfl rfl, zmem 1142 rfl rfl, rfl, by decide⟩)⟩
abbrev mX11_ofEngineer : ZM := (yX11_ofEngineer, cX11_ofEngineer, 3, (some .int), 1, 3, 11, 0, 0)
set_option maxRecDepth 100000 in
theorem gd_X11_ofEngineer : zgood mX11_ofEngineer := ⟨zmem 1151 rfl rfl, zmem 84 rfl rfl, by decide, by decide +kernel, by decide +kernel, by decide +kernel, by decide +kernel, Or.inr (Or.inl ⟨rfl, zmem 1149 rfl rfl, zmem 1150 rfl rfl, rfl, by decide⟩)⟩
abbrev mX11_change : ZM := (yX11_change, cX11_change, 3, (some .int), 1, 3, 11, 0, 0)
set_option maxRecDepth 100000 in
theorem gd_X11_change : zgood mX11_change := ⟨zmem 1160 rfl rfl, zmem 84 rfl rfl, by decide, by decide +kernel, by decide +kernel, by decide +kernel, by decide +kernel, Or.inr (Or.inl ⟨rfl, zmem 1158 rfl rfl, zmem 1159 rfl rfl, rfl, by decide⟩)⟩
abbrev mX11_become : ZM := (yX11_become, cX11_become, 3, (some .int), 1, 3, 11, 0, 0)
set_option maxRecDepth 100000 in
theorem gd_X11_become : zgood mX11_become := ⟨zmem 1164 rfl rfl, zmem 84 rfl rfl, by decide, by decide +kernel, by decide +kernel, by decide +kernel, by decide +kernel, Or.inr (Or.inl ⟨rfl, zmem 1162 rfl rfl, zmem 1163 rfl rfl, rfl, by decide⟩)⟩
abbrev mX11_as : ZM := (yX11_as, cX11_as, 4, (some .int), 1, 3, 11, 0, 0)
set_option maxRecDepth 100000 in
theorem gd_X11_as : zgood mX11_as := ⟨zmem 1168 rfl rfl, zmem 84 rfl rfl, by decide, by decide +kernel, by decide +kernel, by decide +kernel, by decide +kernel, Or.inr (Or.inl ⟨rfl, zmem 1166 rfl rfl, zmem 1167 rfl rfl, rfl, by decide⟩)⟩
abbrev mX11_isLate : ZM := (yX11_isLate, cX11_isLate, 2, (some .boolean), 1, 2, 11, 0, 0)
set_option maxRecDepth 100000 in
theorem gd_X11_isLate : zgood mX11_isLate := ⟨zmem 1181 rfl rfl, zmem 84 rfl rfl, by decide, by decide +kernel, by decide +kernel, by decide +kernel, by decide +kernel, Or.inr (Or.inl ⟨rfl, zmem 1180 rfl rfl, zmem 52 rfl rfl, rfl, by decide⟩)⟩
abbrev mX11_years : ZM := (yX11_years, cX11_years, 2, (some .int), 1, 2, 11, 0, 0)
set_option maxRecDepth 100000 in
theorem gd_X11_years : zgood mX11_years := ⟨zmem 1176 rfl rfl, zmem 84 rfl rfl, by decide, by decide +kernel, by decide +kernel, by decide +kernel, by decide +kernel, Or.inr (Or.inl ⟨rfl, zmem 1174 rfl rfl, zmem 1175 rfl rfl, rfl, by decide⟩)⟩
abbrev mX11_draw : ZM := (yX11_draw, cX11_draw, 1, (some .int), 1, 1, 11, 0, 0)
set_option maxRecDepth 100000 in
theorem gd_X11_draw : zgood mX11_draw := ⟨zmem 1209 rfl rfl, zmem 84 rfl rfl, by decide, by decide +kernel, by decide +kernel, by decide +kernel, by decide +kernel, Or.inr (Or.inl ⟨rfl, zmem 1208 rfl rfl, zmem 57 rfl rfl, rfl, by decide⟩)⟩
abbrev mX11_loose : ZM := (yX11_loose, cX11_loose, 4, (some .int), 1, 2, 11, 0, 0)
set_option maxRecDepth 100000 in
theorem gd_X11_loose : zgood mX11_loose := ⟨zmem 1204 rfl rfl, zmem 84 rfl rfl, by decide, by decide +kernel, by decide +kernel, by decide +kernel, by decide +kernel, Or.inr (Or.inl ⟨rfl, zmem 1202 rfl rfl, zmem 1203 rfl rfl, rfl, by decide⟩)⟩
abbrev mX11_seed : ZM := (yX11_seed, cX11_seed, 2, (some .int), 1, 2, 11, 0, 0)
set_option maxRecDepth 100000 in
theorem gd_X11_seed : zgood mX11_seed := ⟨zmem 1214 rfl rfl, zmem 84 rfl rfl, by decide, by decide +kernel, by decide +kernel, by decide +kernel, by decide +kernel, Or.inr (Or.inl ⟨rfl, zmem 1212 rfl rfl, zmem 1213 rfl rfl, rfl, by decide⟩)⟩
abbrev mX11_isAhead : ZM := (yX11_isAhead, cX11_isAhead, 1, (some .boolean), 0, 1, 11, 0, 0)
set_option maxRecDepth 100000 in
theorem gd_X11_isAhead : zgood mX11_isAhead := ⟨zmem 1221 rfl rfl, zmem 84 rfl rfl, by decide, by decide +kernel, by decide +kernel, by decide +kernel, by decide +kernel, Or.inl ⟨rfl, zmem 1220 rfl rfl⟩⟩
abbrev mX11_then : ZM := (yX11_then, cX11_then, 5, (some .int), 1, 4, 11, 0, 0)
set_option maxRecDepth 100000 in
theorem gd_X11_then : zgood mX11_then := ⟨zmem 1218 rfl rfl, zmem 84 rfl rfl, by decide, by decide +kernel, by decide +kernel, by decide +kernel, by decide +kernel, Or.inr (Or.inl ⟨rfl, zmem 1216 rfl rfl, zmem 1217 rfl rfl, rfl, by decide⟩)⟩
abbrev mX11_meets : ZM := (yX11_meets, cX11_meets, 3, (some .int), 1, 1, 11, 0, 0)
set_option maxRecDepth 100000 in
theorem gd_X11_meets : zgood mX11_meets := ⟨zmem 1233 rfl rfl, zmem 84 rfl rfl, by decide, by decide +kernel, by decide +kernel, by decide +kernel, by decide +kernel, Or.inr (Or.inl ⟨rfl, zmem 1231 rfl rfl, zmem 1232 rfl rfl, rfl, by decide⟩)⟩
abbrev mX11_apartBehind : ZM := (yX11_apartBehind, cX11_apartBehind, 3, (some .int), 1, 2, 11, 0, 0)
set_option maxRecDepth 100000 in
theorem gd_X11_apartBehind : zgood mX11_apartBehind := ⟨zmem 1241 rfl rfl, zmem 84 rfl rfl, by decide, by decide +kernel, by decide +kernel, by decide +kernel, by decide +kernel, Or.inr (Or.inl ⟨rfl, zmem 1240 rfl rfl, zmem 60 rfl rfl, rfl, by decide⟩)⟩
abbrev mX11_apart : ZM := (yX11_apart, cX11_apart, 2, (some .int), 1, 2, 11, 0, 0)
set_option maxRecDepth 100000 in
theorem gd_X11_apart : zgood mX11_apart := ⟨zmem 1237 rfl rfl, zmem 84 rfl rfl, by decide, by decide +kernel, by decide +kernel, by decide +kernel, by decide +kernel, Or.inr (Or.inl ⟨rfl, zmem 1235 rfl rfl, zmem 1236 rfl rfl, rfl, by decide⟩)⟩
abbrev mX11_delayFor : ZM := (yX11_delayFor, cX11_delayFor, 6, (some .int), 1, 2, 11, 0, 0)
set_option maxRecDepth 100000 in
theorem gd_X11_delayFor : zgood mX11_delayFor := ⟨zmem 1245 rfl rfl, zmem 84 rfl rfl, by decide, by decide +kernel, by decide +kernel, by decide +kernel, by decide +kernel, Or.inr (Or.inl ⟨rfl, zmem 1243 rfl rfl, zmem 1244 rfl rfl, rfl, by decide⟩)⟩
abbrev mX11_powerFor : ZM := (yX11_powerFor, cX11_powerFor, 5, (some .int), 1, 4, 11, 0, 0)
set_option maxRecDepth 100000 in
theorem gd_X11_powerFor : zgood mX11_powerFor := ⟨zmem 1250 rfl rfl, zmem 84 rfl rfl, by decide, by decide +kernel, by decide +kernel, by decide +kernel, by decide +kernel, Or.inr (Or.inl ⟨rfl, zmem 1248 rfl rfl, zmem 1249 rfl rfl, rfl, by decide⟩)⟩
abbrev mX11_needless : ZM := (yX11_needless, cX11_needless, 5, (some .int), 1, 2, 11, 0, 0)
set_option maxRecDepth 100000 in
theorem gd_X11_needless : zgood mX11_needless := ⟨zmem 1255 rfl rfl, zmem 84 rfl rfl, by decide, by decide +kernel, by decide +kernel, by decide +kernel, by decide +kernel, Or.inr (Or.inl ⟨rfl, zmem 1253 rfl rfl, zmem 1254 rfl rfl, rfl, by decide⟩)⟩
abbrev mX11_isTold : ZM := (yX11_isTold, cX11_isTold, 5, (some .boolean), 1, 3, 11, 0, 0)
set_option maxRecDepth 100000 in
theorem gd_X11_isTold : zgood mX11_isTold := ⟨zmem 1267 rfl rfl, zmem 84 rfl rfl, by decide, by decide +kernel, by decide +kernel, by decide +kernel, by decide +kernel, Or.inr (Or.inl ⟨rfl, zmem 1266 rfl rfl, zmem 61 rfl rfl, rfl, by decide⟩)⟩
abbrev mX11_heard : ZM := (yX11_heard, cX11_heard, 8, (some .int), 1, 4, 11, 0, 0)
set_option maxRecDepth 100000 in
theorem gd_X11_heard : zgood mX11_heard := ⟨zmem 1259 rfl rfl, zmem 84 rfl rfl, by decide, by decide +kernel, by decide +kernel, by decide +kernel, by decide +kernel, Or.inr (Or.inl ⟨rfl, zmem 1257 rfl rfl, zmem 1258 rfl rfl, rfl, by decide⟩)⟩
abbrev mX11_which : ZM := (yX11_which, cX11_which, 5, (some .int), 1, 3, 11, 0, 0)
set_option maxRecDepth 100000 in
theorem gd_X11_which : zgood mX11_which := ⟨zmem 1271 rfl rfl, zmem 84 rfl rfl, by decide, by decide +kernel, by decide +kernel, by decide +kernel, by decide +kernel, Or.inr (Or.inl ⟨rfl, zmem 1269 rfl rfl, zmem 1270 rfl rfl, rfl, by decide⟩)⟩
abbrev mX11_measures : ZM := (yX11_measures, cX11_measures, 8, none, 1, 3, 11, 0, 0)
set_option maxRecDepth 100000 in
theorem gd_X11_measures : zgood mX11_measures := ⟨zmem 1279 rfl rfl, zmem 84 rfl rfl, by decide, by decide +kernel, by decide +kernel, by decide +kernel, by decide +kernel, Or.inr (Or.inl ⟨rfl, zmem 1278 rfl rfl, zmem 62 rfl rfl, rfl, by decide⟩)⟩
abbrev mX11_takesRock : ZM := (yX11_takesRock, cX11_takesRock, 2, (some .int), 1, 2, 11, 0, 0)
set_option maxRecDepth 100000 in
theorem gd_X11_takesRock : zgood mX11_takesRock := ⟨zmem 1283 rfl rfl, zmem 84 rfl rfl, by decide, by decide +kernel, by decide +kernel, by decide +kernel, by decide +kernel, Or.inr (Or.inl ⟨rfl, zmem 1282 rfl rfl, zmem 63 rfl rfl, rfl, by decide⟩)⟩
abbrev mX11_join : ZM := (yX11_join, cX11_join, 3, (some .int), 1, 3, 11, 0, 0)
set_option maxRecDepth 100000 in
theorem gd_X11_join : zgood mX11_join := ⟨zmem 1275 rfl rfl, zmem 84 rfl rfl, by decide, by decide +kernel, by decide +kernel, by decide +kernel, by decide +kernel, Or.inr (Or.inl ⟨rfl, zmem 1273 rfl rfl, zmem 1274 rfl rfl, rfl, by decide⟩)⟩
abbrev mX11_steps : ZM := (yX11_steps, cX11_steps, 3, (some .int), 1, 3, 11, 0, 0)
set_option maxRecDepth 100000 in
theorem gd_X11_steps : zgood mX11_steps := ⟨zmem 1287 rfl rfl, zmem 84 rfl rfl, by decide, by decide +kernel, by decide +kernel, by decide +kernel, by decide +kernel, Or.inr (Or.inl ⟨rfl, zmem 1285 rfl rfl, zmem 1286 rfl rfl, rfl, by decide⟩)⟩
abbrev mX11_isOpen : ZM := (yX11_isOpen, cX11_isOpen, 4, (some .boolean), 1, 3, 11, 0, 0)
set_option maxRecDepth 100000 in
theorem gd_X11_isOpen : zgood mX11_isOpen := ⟨zmem 1296 rfl rfl, zmem 84 rfl rfl, by decide, by decide +kernel, by decide +kernel, by decide +kernel, by decide +kernel, Or.inr (Or.inl ⟨rfl, zmem 1295 rfl rfl, zmem 64 rfl rfl, rfl, by decide⟩)⟩
abbrev mX11_hand : ZM := (yX11_hand, cX11_hand, 10, (some .int), 1, 4, 11, 0, 0)
set_option maxRecDepth 100000 in
theorem gd_X11_hand : zgood mX11_hand := ⟨zmem 1291 rfl rfl, zmem 84 rfl rfl, by decide, by decide +kernel, by decide +kernel, by decide +kernel, by decide +kernel, Or.inr (Or.inl ⟨rfl, zmem 1289 rfl rfl, zmem 1290 rfl rfl, rfl, by decide⟩)⟩
abbrev mX11_parts : ZM := (yX11_parts, cX11_parts, 4, (some .int), 1, 1, 11, 0, 0)
set_option maxRecDepth 100000 in
theorem gd_X11_parts : zgood mX11_parts := ⟨zmem 1300 rfl rfl, zmem 84 rfl rfl, by decide, by decide +kernel, by decide +kernel, by decide +kernel, by decide +kernel, Or.inr (Or.inl ⟨rfl, zmem 1298 rfl rfl, zmem 1299 rfl rfl, rfl, by decide⟩)⟩
abbrev mX11_common : ZM := (yX11_common, cX11_common, 5, (some .int), 0, 2, 11, 0, 0)
set_option maxRecDepth 100000 in
theorem gd_X11_common : zgood mX11_common := ⟨zmem 1308 rfl rfl, zmem 84 rfl rfl, by decide, by decide +kernel, by decide +kernel, by decide +kernel, by decide +kernel, Or.inl ⟨rfl, zmem 1307 rfl rfl⟩⟩
abbrev mX11_odds : ZM := (yX11_odds, cX11_odds, 6, (some .int), 1, 4, 11, 0, 0)
set_option maxRecDepth 100000 in
theorem gd_X11_odds : zgood mX11_odds := ⟨zmem 1304 rfl rfl, zmem 84 rfl rfl, by decide, by decide +kernel, by decide +kernel, by decide +kernel, by decide +kernel, Or.inr (Or.inl ⟨rfl, zmem 1302 rfl rfl, zmem 1303 rfl rfl, rfl, by decide⟩)⟩
abbrev mX11_ran : ZM := (yX11_ran, cX11_ran, 2, none, 1, 2, 11, 0, 0)
set_option maxRecDepth 100000 in
theorem gd_X11_ran : zgood mX11_ran := ⟨zmem 1320 rfl rfl, zmem 84 rfl rfl, by decide, by decide +kernel, by decide +kernel, by decide +kernel, by decide +kernel, Or.inr (Or.inl ⟨rfl, zmem 1319 rfl rfl, zmem 66 rfl rfl, rfl, by decide⟩)⟩
abbrev mX11_knocksBy : ZM := (yX11_knocksBy, cX11_knocksBy, 3, (some .int), 1, 3, 11, 0, 0)
set_option maxRecDepth 100000 in
theorem gd_X11_knocksBy : zgood mX11_knocksBy := ⟨zmem 1316 rfl rfl, zmem 84 rfl rfl, by decide, by decide +kernel, by decide +kernel, by decide +kernel, by decide +kernel, Or.inr (Or.inl ⟨rfl, zmem 1315 rfl rfl, zmem 65 rfl rfl, rfl, by decide⟩)⟩
abbrev mX11_hearsBy : ZM := (yX11_hearsBy, cX11_hearsBy, 4, (some .int), 1, 3, 11, 0, 0)
set_option maxRecDepth 100000 in
theorem gd_X11_hearsBy : zgood mX11_hearsBy := ⟨zmem 1324 rfl rfl, zmem 84 rfl rfl, by decide, by decide +kernel, by decide +kernel, by decide +kernel, by decide +kernel, Or.inr (Or.inl ⟨rfl, zmem 1323 rfl rfl, zmem 67 rfl rfl, rfl, by decide⟩)⟩
abbrev mX11_digsBy : ZM := (yX11_digsBy, cX11_digsBy, 3, (some .int), 1, 3, 11, 0, 0)
set_option maxRecDepth 100000 in
theorem gd_X11_digsBy : zgood mX11_digsBy := ⟨zmem 1328 rfl rfl, zmem 84 rfl rfl, by decide, by decide +kernel, by decide +kernel, by decide +kernel, by decide +kernel, Or.inr (Or.inl ⟨rfl, zmem 1327 rfl rfl, zmem 68 rfl rfl, rfl, by decide⟩)⟩
abbrev mX11_tellsBy : ZM := (yX11_tellsBy, cX11_tellsBy, 4, (some .int), 1, 3, 11, 0, 0)
set_option maxRecDepth 100000 in
theorem gd_X11_tellsBy : zgood mX11_tellsBy := ⟨zmem 1332 rfl rfl, zmem 84 rfl rfl, by decide, by decide +kernel, by decide +kernel, by decide +kernel, by decide +kernel, Or.inr (Or.inl ⟨rfl, zmem 1331 rfl rfl, zmem 69 rfl rfl, rfl, by decide⟩)⟩
abbrev mX11_voice : ZM := (yX11_voice, cX11_voice, 5, (some .int), 1, 4, 11, 0, 0)
set_option maxRecDepth 100000 in
theorem gd_X11_voice : zgood mX11_voice := ⟨zmem 1312 rfl rfl, zmem 84 rfl rfl, by decide, by decide +kernel, by decide +kernel, by decide +kernel, by decide +kernel, Or.inr (Or.inl ⟨rfl, zmem 1310 rfl rfl, zmem 1311 rfl rfl, rfl, by decide⟩)⟩
abbrev mX11_trace : ZM := (yX11_trace, cX11_trace, 2, (some .int), 1, 2, 11, 0, 0)
set_option maxRecDepth 100000 in
theorem gd_X11_trace : zgood mX11_trace := ⟨zmem 1336 rfl rfl, zmem 84 rfl rfl, by decide, by decide +kernel, by decide +kernel, by decide +kernel, by decide +kernel, Or.inr (Or.inl ⟨rfl, zmem 1334 rfl rfl, zmem 1335 rfl rfl, rfl, by decide⟩)⟩
abbrev mX11_isSheet : ZM := (yX11_isSheet, cX11_isSheet, 1, (some .boolean), 0, 1, 11, 0, 0)
set_option maxRecDepth 100000 in
theorem gd_X11_isSheet : zgood mX11_isSheet := ⟨zmem 1262 rfl rfl, zmem 84 rfl rfl, by decide, by decide +kernel, by decide +kernel, by decide +kernel, by decide +kernel, Or.inl ⟨rfl, zmem 1261 rfl rfl⟩⟩
abbrev mX11_sheet : ZM := (yX11_sheet, cX11_sheet, 5, (some .int), 1, 4, 11, 0, 0)
set_option maxRecDepth 100000 in
theorem gd_X11_sheet : zgood mX11_sheet := ⟨zmem 1340 rfl rfl, zmem 84 rfl rfl, by decide, by decide +kernel, by decide +kernel, by decide +kernel, by decide +kernel, Or.inr (Or.inl ⟨rfl, zmem 1338 rfl rfl, zmem 1339 rfl rfl, rfl, by decide⟩)⟩
abbrev mX11_put : ZM := (yX11_put, cX11_put, 4, (some .int), 1, 4, 11, 0, 0)
set_option maxRecDepth 100000 in
theorem gd_X11_put : zgood mX11_put := ⟨zmem 1344 rfl rfl, zmem 84 rfl rfl, by decide, by decide +kernel, by decide +kernel, by decide +kernel, by decide +kernel, Or.inr (Or.inl ⟨rfl, zmem 1342 rfl rfl, zmem 1343 rfl rfl, rfl, by decide⟩)⟩
abbrev mX11_move : ZM := (yX11_move, cX11_move, 7, (some .int), 1, 6, 11, 0, 0)
set_option maxRecDepth 100000 in
theorem gd_X11_move : zgood mX11_move := ⟨zmem 1348 rfl rfl, zmem 84 rfl rfl, by decide, by decide +kernel, by decide +kernel, by decide +kernel, by decide +kernel, Or.inr (Or.inl ⟨rfl, zmem 1346 rfl rfl, zmem 1347 rfl rfl, rfl, by decide⟩)⟩
abbrev mX11_rocks : ZM := (yX11_rocks, cX11_rocks, 3, (some .int), 1, 2, 11, 0, 0)
set_option maxRecDepth 100000 in
theorem gd_X11_rocks : zgood mX11_rocks := ⟨zmem 1352 rfl rfl, zmem 84 rfl rfl, by decide, by decide +kernel, by decide +kernel, by decide +kernel, by decide +kernel, Or.inr (Or.inl ⟨rfl, zmem 1350 rfl rfl, zmem 1351 rfl rfl, rfl, by decide⟩)⟩
abbrev mX11_judge : ZM := (yX11_judge, cX11_judge, 3, (some .int), 1, 2, 11, 0, 0)
set_option maxRecDepth 100000 in
theorem gd_X11_judge : zgood mX11_judge := ⟨zmem 1356 rfl rfl, zmem 84 rfl rfl, by decide, by decide +kernel, by decide +kernel, by decide +kernel, by decide +kernel, Or.inr (Or.inl ⟨rfl, zmem 1354 rfl rfl, zmem 1355 rfl rfl, rfl, by decide⟩)⟩
abbrev mX11_image : ZM := (yX11_image, cX11_image, 2, (some .int), 1, 1, 11, 0, 0)
set_option maxRecDepth 100000 in
theorem gd_X11_image : zgood mX11_image := ⟨zmem 1360 rfl rfl, zmem 84 rfl rfl, by decide, by decide +kernel, by decide +kernel, by decide +kernel, by decide +kernel, Or.inr (Or.inl ⟨rfl, zmem 1358 rfl rfl, zmem 1359 rfl rfl, rfl, by decide⟩)⟩
abbrev mX11_restore : ZM := (yX11_restore, cX11_restore, 2, (some .int), 1, 1, 11, 0, 0)
set_option maxRecDepth 100000 in
theorem gd_X11_restore : zgood mX11_restore := ⟨zmem 1364 rfl rfl, zmem 84 rfl rfl, by decide, by decide +kernel, by decide +kernel, by decide +kernel, by decide +kernel, Or.inr (Or.inl ⟨rfl, zmem 1362 rfl rfl, zmem 1363 rfl rfl, rfl, by decide⟩)⟩
abbrev mX11_tell : ZM := (yX11_tell, cX11_tell, 2, (some .int), 1, 2, 11, 0, 0)
set_option maxRecDepth 100000 in
theorem gd_X11_tell : zgood mX11_tell := ⟨zmem 1368 rfl rfl, zmem 84 rfl rfl, by decide, by decide +kernel, by decide +kernel, by decide +kernel, by decide +kernel, Or.inr (Or.inl ⟨rfl, zmem 1366 rfl rfl, zmem 1367 rfl rfl, rfl, by decide⟩)⟩
abbrev mX11_check : ZM := (yX11_check, cX11_check, 4, (some .int), 1, 1, 11, 0, 0)
set_option maxRecDepth 100000 in
theorem gd_X11_check : zgood mX11_check := ⟨zmem 1372 rfl rfl, zmem 84 rfl rfl, by decide, by decide +kernel, by decide +kernel, by decide +kernel, by decide +kernel, Or.inr (Or.inl ⟨rfl, zmem 1370 rfl rfl, zmem 1371 rfl rfl, rfl, by decide⟩)⟩
abbrev mX11_sumOf : ZM := (yX11_sumOf, cX11_sumOf, 6, (some .int), 1, 4, 11, 0, 0)
set_option maxRecDepth 100000 in
theorem gd_X11_sumOf : zgood mX11_sumOf := ⟨zmem 1380 rfl rfl, zmem 84 rfl rfl, by decide, by decide +kernel, by decide +kernel, by decide +kernel, by decide +kernel, Or.inr (Or.inl ⟨rfl, zmem 1379 rfl rfl, zmem 70 rfl rfl, rfl, by decide⟩)⟩
abbrev mX11_count : ZM := (yX11_count, cX11_count, 2, (some .int), 1, 2, 11, 0, 0)
set_option maxRecDepth 100000 in
theorem gd_X11_count : zgood mX11_count := ⟨zmem 1376 rfl rfl, zmem 84 rfl rfl, by decide, by decide +kernel, by decide +kernel, by decide +kernel, by decide +kernel, Or.inr (Or.inl ⟨rfl, zmem 1374 rfl rfl, zmem 1375 rfl rfl, rfl, by decide⟩)⟩
abbrev mX11_told : ZM := (yX11_told, cX11_told, 2, (some .int), 1, 2, 11, 0, 0)
set_option maxRecDepth 100000 in
theorem gd_X11_told : zgood mX11_told := ⟨zmem 1384 rfl rfl, zmem 84 rfl rfl, by decide, by decide +kernel, by decide +kernel, by decide +kernel, by decide +kernel, Or.inr (Or.inl ⟨rfl, zmem 1382 rfl rfl, zmem 1383 rfl rfl, rfl, by decide⟩)⟩
abbrev mJ7_fill_53178 : ZM := (yJ7_fill_53178, cJ7_fill_53178, 4, none, 0, 2, 0, 0, 0)
set_option maxRecDepth 100000 in
theorem gd_J7_fill_53178 : zgood mJ7_fill_53178 := ⟨zmem 469 rfl rfl, zmem 85 rfl rfl, by decide, by decide +kernel, by decide +kernel, by decide +kernel, by decide +kernel, Or.inl ⟨rfl, zmem 468 rfl rfl⟩⟩
def zon : Nat → String := fun o => match o with
  | 0 => RX0
  | 1 => RX1
  | 2 => RX2
  | 3 => RX3
  | 4 => RX4
  | 5 => RX5
  | 6 => RX6
  | 7 => RX7
  | 8 => RX8
  | 9 => RX9
  | 10 => RX10
  | 11 => RX11
  | 12 => RJ7
  | _ => RL
def zFT_0 : List (Nat × Nat × Nat) := [(9, 0, 0), (15, 0, 1), (18, 0, 2), (30, 0, 3)]
set_option maxRecDepth 100000 in
theorem zFT_0_ok : ∀ q ∈ zFT_0, ∃ (C : String) (T : u_T) (N : Nat), zcl[q.2.1]? = some (C, T, N) ∧ q.2.2 < N ∧ Cond.fieldLink (zon 0) q.1 (T q.2.2).1 (T q.2.2).2.1 (T q.2.2).2.2.1 ∈ zTb := List.forall_mem_cons.mpr ⟨⟨RX0, TX0, 4, rfl, by decide, zmem 162 rfl rfl⟩, List.forall_mem_cons.mpr ⟨⟨RX0, TX0, 4, rfl, by decide, zmem 166 rfl rfl⟩, List.forall_mem_cons.mpr ⟨⟨RX0, TX0, 4, rfl, by decide, zmem 170 rfl rfl⟩, List.forall_mem_cons.mpr ⟨⟨RX0, TX0, 4, rfl, by decide, zmem 174 rfl rfl⟩, fun _ h => absurd h List.not_mem_nil⟩⟩⟩⟩
def zFT_1 : List (Nat × Nat × Nat) := [(9, 1, 4), (15, 1, 0), (19, 1, 1), (23, 1, 2), (27, 1, 3), (30, 2, 2), (56, 0, 3), (62, 0, 2), (74, 2, 5), (77, 1, 5), (79, 1, 6), (82, 1, 7), (90, 1, 8), (93, 1, 9), (97, 0, 1), (100, 0, 0), (117, 2, 9)]
set_option maxRecDepth 100000 in
theorem zFT_1_ok : ∀ q ∈ zFT_1, ∃ (C : String) (T : u_T) (N : Nat), zcl[q.2.1]? = some (C, T, N) ∧ q.2.2 < N ∧ Cond.fieldLink (zon 1) q.1 (T q.2.2).1 (T q.2.2).2.1 (T q.2.2).2.2.1 ∈ zTb := List.forall_mem_cons.mpr ⟨⟨RX1, TX1, 10, rfl, by decide, zmem 266 rfl rfl⟩, List.forall_mem_cons.mpr ⟨⟨RX1, TX1, 10, rfl, by decide, zmem 260 rfl rfl⟩, List.forall_mem_cons.mpr ⟨⟨RX1, TX1, 10, rfl, by decide, zmem 262 rfl rfl⟩, List.forall_mem_cons.mpr ⟨⟨RX1, TX1, 10, rfl, by decide, zmem 264 rfl rfl⟩, List.forall_mem_cons.mpr ⟨⟨RX1, TX1, 10, rfl, by decide, zmem 265 rfl rfl⟩, List.forall_mem_cons.mpr ⟨⟨RX2, TX2, 10, rfl, by decide, zmem 118 rfl rfl⟩, List.forall_mem_cons.mpr ⟨⟨RX0, TX0, 4, rfl, by decide, zmem 173 rfl rfl⟩, List.forall_mem_cons.mpr ⟨⟨RX0, TX0, 4, rfl, by decide, zmem 171 rfl rfl⟩, List.forall_mem_cons.mpr ⟨⟨RX2, TX2, 10, rfl, by decide, zmem 125 rfl rfl⟩, List.forall_mem_cons.mpr ⟨⟨RX1, TX1, 10, rfl, by decide, zmem 267 rfl rfl⟩, List.forall_mem_cons.mpr ⟨⟨RX1, TX1, 10, rfl, by decide, zmem 268 rfl rfl⟩, List.forall_mem_cons.mpr ⟨⟨RX1, TX1, 10, rfl, by decide, zmem 269 rfl rfl⟩, List.forall_mem_cons.mpr ⟨⟨RX1, TX1, 10, rfl, by decide, zmem 270 rfl rfl⟩, List.forall_mem_cons.mpr ⟨⟨RX1, TX1, 10, rfl, by decide, zmem 271 rfl rfl⟩, List.forall_mem_cons.mpr ⟨⟨RX0, TX0, 4, rfl, by decide, zmem 168 rfl rfl⟩, List.forall_mem_cons.mpr ⟨⟨RX0, TX0, 4, rfl, by decide, zmem 164 rfl rfl⟩, List.forall_mem_cons.mpr ⟨⟨RX2, TX2, 10, rfl, by decide, zmem 131 rfl rfl⟩, fun _ h => absurd h List.not_mem_nil⟩⟩⟩⟩⟩⟩⟩⟩⟩⟩⟩⟩⟩⟩⟩⟩⟩
def zFT_2 : List (Nat × Nat × Nat) := [(9, 2, 0), (15, 2, 1), (18, 2, 2), (21, 2, 3), (24, 2, 4), (27, 2, 5), (30, 2, 6), (33, 2, 8), (51, 2, 7), (66, 2, 9)]
set_option maxRecDepth 100000 in
theorem zFT_2_ok : ∀ q ∈ zFT_2, ∃ (C : String) (T : u_T) (N : Nat), zcl[q.2.1]? = some (C, T, N) ∧ q.2.2 < N ∧ Cond.fieldLink (zon 2) q.1 (T q.2.2).1 (T q.2.2).2.1 (T q.2.2).2.2.1 ∈ zTb := List.forall_mem_cons.mpr ⟨⟨RX2, TX2, 10, rfl, by decide, zmem 111 rfl rfl⟩, List.forall_mem_cons.mpr ⟨⟨RX2, TX2, 10, rfl, by decide, zmem 114 rfl rfl⟩, List.forall_mem_cons.mpr ⟨⟨RX2, TX2, 10, rfl, by decide, zmem 117 rfl rfl⟩, List.forall_mem_cons.mpr ⟨⟨RX2, TX2, 10, rfl, by decide, zmem 120 rfl rfl⟩, List.forall_mem_cons.mpr ⟨⟨RX2, TX2, 10, rfl, by decide, zmem 122 rfl rfl⟩, List.forall_mem_cons.mpr ⟨⟨RX2, TX2, 10, rfl, by decide, zmem 124 rfl rfl⟩, List.forall_mem_cons.mpr ⟨⟨RX2, TX2, 10, rfl, by decide, zmem 127 rfl rfl⟩, List.forall_mem_cons.mpr ⟨⟨RX2, TX2, 10, rfl, by decide, zmem 129 rfl rfl⟩, List.forall_mem_cons.mpr ⟨⟨RX2, TX2, 10, rfl, by decide, zmem 128 rfl rfl⟩, List.forall_mem_cons.mpr ⟨⟨RX2, TX2, 10, rfl, by decide, zmem 132 rfl rfl⟩, fun _ h => absurd h List.not_mem_nil⟩⟩⟩⟩⟩⟩⟩⟩⟩⟩
def zFT_3 : List (Nat × Nat × Nat) := [(14, 3, 0), (20, 3, 1), (24, 5, 1), (28, 5, 0)]
set_option maxRecDepth 100000 in
theorem zFT_3_ok : ∀ q ∈ zFT_3, ∃ (C : String) (T : u_T) (N : Nat), zcl[q.2.1]? = some (C, T, N) ∧ q.2.2 < N ∧ Cond.fieldLink (zon 3) q.1 (T q.2.2).1 (T q.2.2).2.1 (T q.2.2).2.2.1 ∈ zTb := List.forall_mem_cons.mpr ⟨⟨RX3, TX3, 2, rfl, by decide, zmem 214 rfl rfl⟩, List.forall_mem_cons.mpr ⟨⟨RX3, TX3, 2, rfl, by decide, zmem 217 rfl rfl⟩, List.forall_mem_cons.mpr ⟨⟨RX5, TX5, 2, rfl, by decide, zmem 206 rfl rfl⟩, List.forall_mem_cons.mpr ⟨⟨RX5, TX5, 2, rfl, by decide, zmem 201 rfl rfl⟩, fun _ h => absurd h List.not_mem_nil⟩⟩⟩⟩
def zFT_4 : List (Nat × Nat × Nat) := [(14, 4, 0), (20, 4, 1), (23, 4, 2), (27, 4, 3), (30, 4, 4), (33, 5, 1), (72, 5, 0)]
set_option maxRecDepth 100000 in
theorem zFT_4_ok : ∀ q ∈ zFT_4, ∃ (C : String) (T : u_T) (N : Nat), zcl[q.2.1]? = some (C, T, N) ∧ q.2.2 < N ∧ Cond.fieldLink (zon 4) q.1 (T q.2.2).1 (T q.2.2).2.1 (T q.2.2).2.2.1 ∈ zTb := List.forall_mem_cons.mpr ⟨⟨RX4, TX4, 5, rfl, by decide, zmem 305 rfl rfl⟩, List.forall_mem_cons.mpr ⟨⟨RX4, TX4, 5, rfl, by decide, zmem 307 rfl rfl⟩, List.forall_mem_cons.mpr ⟨⟨RX4, TX4, 5, rfl, by decide, zmem 308 rfl rfl⟩, List.forall_mem_cons.mpr ⟨⟨RX4, TX4, 5, rfl, by decide, zmem 309 rfl rfl⟩, List.forall_mem_cons.mpr ⟨⟨RX4, TX4, 5, rfl, by decide, zmem 310 rfl rfl⟩, List.forall_mem_cons.mpr ⟨⟨RX5, TX5, 2, rfl, by decide, zmem 207 rfl rfl⟩, List.forall_mem_cons.mpr ⟨⟨RX5, TX5, 2, rfl, by decide, zmem 202 rfl rfl⟩, fun _ h => absurd h List.not_mem_nil⟩⟩⟩⟩⟩⟩⟩
def zFT_5 : List (Nat × Nat × Nat) := [(13, 5, 0), (19, 5, 1)]
set_option maxRecDepth 100000 in
theorem zFT_5_ok : ∀ q ∈ zFT_5, ∃ (C : String) (T : u_T) (N : Nat), zcl[q.2.1]? = some (C, T, N) ∧ q.2.2 < N ∧ Cond.fieldLink (zon 5) q.1 (T q.2.2).1 (T q.2.2).2.1 (T q.2.2).2.2.1 ∈ zTb := List.forall_mem_cons.mpr ⟨⟨RX5, TX5, 2, rfl, by decide, zmem 200 rfl rfl⟩, List.forall_mem_cons.mpr ⟨⟨RX5, TX5, 2, rfl, by decide, zmem 204 rfl rfl⟩, fun _ h => absurd h List.not_mem_nil⟩⟩
def zFT_6 : List (Nat × Nat × Nat) := [(12, 6, 0), (21, 6, 1), (28, 6, 2), (32, 6, 3), (40, 6, 4), (44, 6, 5), (47, 6, 6), (59, 3, 0)]
set_option maxRecDepth 100000 in
theorem zFT_6_ok : ∀ q ∈ zFT_6, ∃ (C : String) (T : u_T) (N : Nat), zcl[q.2.1]? = some (C, T, N) ∧ q.2.2 < N ∧ Cond.fieldLink (zon 6) q.1 (T q.2.2).1 (T q.2.2).2.1 (T q.2.2).2.2.1 ∈ zTb := List.forall_mem_cons.mpr ⟨⟨RX6, TX6, 7, rfl, by decide, zmem 225 rfl rfl⟩, List.forall_mem_cons.mpr ⟨⟨RX6, TX6, 7, rfl, by decide, zmem 227 rfl rfl⟩, List.forall_mem_cons.mpr ⟨⟨RX6, TX6, 7, rfl, by decide, zmem 229 rfl rfl⟩, List.forall_mem_cons.mpr ⟨⟨RX6, TX6, 7, rfl, by decide, zmem 231 rfl rfl⟩, List.forall_mem_cons.mpr ⟨⟨RX6, TX6, 7, rfl, by decide, zmem 233 rfl rfl⟩, List.forall_mem_cons.mpr ⟨⟨RX6, TX6, 7, rfl, by decide, zmem 235 rfl rfl⟩, List.forall_mem_cons.mpr ⟨⟨RX6, TX6, 7, rfl, by decide, zmem 237 rfl rfl⟩, List.forall_mem_cons.mpr ⟨⟨RX3, TX3, 2, rfl, by decide, zmem 215 rfl rfl⟩, fun _ h => absurd h List.not_mem_nil⟩⟩⟩⟩⟩⟩⟩⟩
def zFT_7 : List (Nat × Nat × Nat) := [(9, 7, 0), (15, 7, 1), (19, 7, 2)]
set_option maxRecDepth 100000 in
theorem zFT_7_ok : ∀ q ∈ zFT_7, ∃ (C : String) (T : u_T) (N : Nat), zcl[q.2.1]? = some (C, T, N) ∧ q.2.2 < N ∧ Cond.fieldLink (zon 7) q.1 (T q.2.2).1 (T q.2.2).2.1 (T q.2.2).2.2.1 ∈ zTb := List.forall_mem_cons.mpr ⟨⟨RX7, TX7, 3, rfl, by decide, zmem 370 rfl rfl⟩, List.forall_mem_cons.mpr ⟨⟨RX7, TX7, 3, rfl, by decide, zmem 372 rfl rfl⟩, List.forall_mem_cons.mpr ⟨⟨RX7, TX7, 3, rfl, by decide, zmem 374 rfl rfl⟩, fun _ h => absurd h List.not_mem_nil⟩⟩⟩
def zFT_8 : List (Nat × Nat × Nat) := [(14, 8, 0), (20, 5, 1), (24, 0, 0), (30, 8, 1), (32, 8, 2), (35, 0, 1), (38, 8, 3)]
set_option maxRecDepth 100000 in
theorem zFT_8_ok : ∀ q ∈ zFT_8, ∃ (C : String) (T : u_T) (N : Nat), zcl[q.2.1]? = some (C, T, N) ∧ q.2.2 < N ∧ Cond.fieldLink (zon 8) q.1 (T q.2.2).1 (T q.2.2).2.1 (T q.2.2).2.2.1 ∈ zTb := List.forall_mem_cons.mpr ⟨⟨RX8, TX8, 4, rfl, by decide, zmem 349 rfl rfl⟩, List.forall_mem_cons.mpr ⟨⟨RX5, TX5, 2, rfl, by decide, zmem 205 rfl rfl⟩, List.forall_mem_cons.mpr ⟨⟨RX0, TX0, 4, rfl, by decide, zmem 163 rfl rfl⟩, List.forall_mem_cons.mpr ⟨⟨RX8, TX8, 4, rfl, by decide, zmem 351 rfl rfl⟩, List.forall_mem_cons.mpr ⟨⟨RX8, TX8, 4, rfl, by decide, zmem 352 rfl rfl⟩, List.forall_mem_cons.mpr ⟨⟨RX0, TX0, 4, rfl, by decide, zmem 167 rfl rfl⟩, List.forall_mem_cons.mpr ⟨⟨RX8, TX8, 4, rfl, by decide, zmem 353 rfl rfl⟩, fun _ h => absurd h List.not_mem_nil⟩⟩⟩⟩⟩⟩⟩
def zFT_9 : List (Nat × Nat × Nat) := [(9, 9, 1), (15, 9, 2), (18, 9, 3), (21, 9, 0), (51, 2, 1), (54, 2, 0)]
set_option maxRecDepth 100000 in
theorem zFT_9_ok : ∀ q ∈ zFT_9, ∃ (C : String) (T : u_T) (N : Nat), zcl[q.2.1]? = some (C, T, N) ∧ q.2.2 < N ∧ Cond.fieldLink (zon 9) q.1 (T q.2.2).1 (T q.2.2).2.1 (T q.2.2).2.2.1 ∈ zTb := List.forall_mem_cons.mpr ⟨⟨RX9, TX9, 4, rfl, by decide, zmem 329 rfl rfl⟩, List.forall_mem_cons.mpr ⟨⟨RX9, TX9, 4, rfl, by decide, zmem 330 rfl rfl⟩, List.forall_mem_cons.mpr ⟨⟨RX9, TX9, 4, rfl, by decide, zmem 331 rfl rfl⟩, List.forall_mem_cons.mpr ⟨⟨RX9, TX9, 4, rfl, by decide, zmem 328 rfl rfl⟩, List.forall_mem_cons.mpr ⟨⟨RX2, TX2, 10, rfl, by decide, zmem 115 rfl rfl⟩, List.forall_mem_cons.mpr ⟨⟨RX2, TX2, 10, rfl, by decide, zmem 113 rfl rfl⟩, fun _ h => absurd h List.not_mem_nil⟩⟩⟩⟩⟩⟩
def zFT_10 : List (Nat × Nat × Nat) := [(12, 10, 0), (16, 10, 1), (21, 6, 0), (25, 6, 1), (29, 6, 2), (33, 6, 3), (39, 10, 2), (49, 10, 3), (54, 6, 4), (61, 10, 4), (70, 10, 5), (77, 10, 6), (83, 10, 7), (87, 10, 8), (101, 2, 0), (108, 2, 1), (114, 2, 2), (121, 2, 3), (124, 2, 4), (127, 2, 5), (136, 2, 8), (140, 0, 3), (144, 0, 0), (147, 0, 1), (150, 0, 2), (171, 5, 1), (184, 3, 0), (189, 4, 0), (197, 2, 9), (216, 1, 0), (218, 1, 1), (219, 7, 1), (243, 6, 6), (250, 8, 0), (253, 5, 0), (259, 7, 2), (266, 7, 0), (281, 10, 9), (284, 6, 5)]
set_option maxRecDepth 100000 in
theorem zFT_10_ok : ∀ q ∈ zFT_10, ∃ (C : String) (T : u_T) (N : Nat), zcl[q.2.1]? = some (C, T, N) ∧ q.2.2 < N ∧ Cond.fieldLink (zon 10) q.1 (T q.2.2).1 (T q.2.2).2.1 (T q.2.2).2.2.1 ∈ zTb := List.forall_mem_cons.mpr ⟨⟨RX10, TX10, 10, rfl, by decide, zmem 383 rfl rfl⟩, List.forall_mem_cons.mpr ⟨⟨RX10, TX10, 10, rfl, by decide, zmem 384 rfl rfl⟩, List.forall_mem_cons.mpr ⟨⟨RX6, TX6, 7, rfl, by decide, zmem 226 rfl rfl⟩, List.forall_mem_cons.mpr ⟨⟨RX6, TX6, 7, rfl, by decide, zmem 228 rfl rfl⟩, List.forall_mem_cons.mpr ⟨⟨RX6, TX6, 7, rfl, by decide, zmem 230 rfl rfl⟩, List.forall_mem_cons.mpr ⟨⟨RX6, TX6, 7, rfl, by decide, zmem 232 rfl rfl⟩, List.forall_mem_cons.mpr ⟨⟨RX10, TX10, 10, rfl, by decide, zmem 385 rfl rfl⟩, List.forall_mem_cons.mpr ⟨⟨RX10, TX10, 10, rfl, by decide, zmem 386 rfl rfl⟩, List.forall_mem_cons.mpr ⟨⟨RX6, TX6, 7, rfl, by decide, zmem 234 rfl rfl⟩, List.forall_mem_cons.mpr ⟨⟨RX10, TX10, 10, rfl, by decide, zmem 387 rfl rfl⟩, List.forall_mem_cons.mpr ⟨⟨RX10, TX10, 10, rfl, by decide, zmem 388 rfl rfl⟩, List.forall_mem_cons.mpr ⟨⟨RX10, TX10, 10, rfl, by decide, zmem 389 rfl rfl⟩, List.forall_mem_cons.mpr ⟨⟨RX10, TX10, 10, rfl, by decide, zmem 390 rfl rfl⟩, List.forall_mem_cons.mpr ⟨⟨RX10, TX10, 10, rfl, by decide, zmem 391 rfl rfl⟩, List.forall_mem_cons.mpr ⟨⟨RX2, TX2, 10, rfl, by decide, zmem 112 rfl rfl⟩, List.forall_mem_cons.mpr ⟨⟨RX2, TX2, 10, rfl, by decide, zmem 116 rfl rfl⟩, List.forall_mem_cons.mpr ⟨⟨RX2, TX2, 10, rfl, by decide, zmem 119 rfl rfl⟩, List.forall_mem_cons.mpr ⟨⟨RX2, TX2, 10, rfl, by decide, zmem 121 rfl rfl⟩, List.forall_mem_cons.mpr ⟨⟨RX2, TX2, 10, rfl, by decide, zmem 123 rfl rfl⟩, List.forall_mem_cons.mpr ⟨⟨RX2, TX2, 10, rfl, by decide, zmem 126 rfl rfl⟩, List.forall_mem_cons.mpr ⟨⟨RX2, TX2, 10, rfl, by decide, zmem 130 rfl rfl⟩, List.forall_mem_cons.mpr ⟨⟨RX0, TX0, 4, rfl, by decide, zmem 175 rfl rfl⟩, List.forall_mem_cons.mpr ⟨⟨RX0, TX0, 4, rfl, by decide, zmem 165 rfl rfl⟩, List.forall_mem_cons.mpr ⟨⟨RX0, TX0, 4, rfl, by decide, zmem 169 rfl rfl⟩, List.forall_mem_cons.mpr ⟨⟨RX0, TX0, 4, rfl, by decide, zmem 172 rfl rfl⟩, List.forall_mem_cons.mpr ⟨⟨RX5, TX5, 2, rfl, by decide, zmem 208 rfl rfl⟩, List.forall_mem_cons.mpr ⟨⟨RX3, TX3, 2, rfl, by decide, zmem 216 rfl rfl⟩, List.forall_mem_cons.mpr ⟨⟨RX4, TX4, 5, rfl, by decide, zmem 306 rfl rfl⟩, List.forall_mem_cons.mpr ⟨⟨RX2, TX2, 10, rfl, by decide, zmem 133 rfl rfl⟩, List.forall_mem_cons.mpr ⟨⟨RX1, TX1, 10, rfl, by decide, zmem 261 rfl rfl⟩, List.forall_mem_cons.mpr ⟨⟨RX1, TX1, 10, rfl, by decide, zmem 263 rfl rfl⟩, List.forall_mem_cons.mpr ⟨⟨RX7, TX7, 3, rfl, by decide, zmem 373 rfl rfl⟩, List.forall_mem_cons.mpr ⟨⟨RX6, TX6, 7, rfl, by decide, zmem 238 rfl rfl⟩, List.forall_mem_cons.mpr ⟨⟨RX8, TX8, 4, rfl, by decide, zmem 350 rfl rfl⟩, List.forall_mem_cons.mpr ⟨⟨RX5, TX5, 2, rfl, by decide, zmem 203 rfl rfl⟩, List.forall_mem_cons.mpr ⟨⟨RX7, TX7, 3, rfl, by decide, zmem 375 rfl rfl⟩, List.forall_mem_cons.mpr ⟨⟨RX7, TX7, 3, rfl, by decide, zmem 371 rfl rfl⟩, List.forall_mem_cons.mpr ⟨⟨RX10, TX10, 10, rfl, by decide, zmem 392 rfl rfl⟩, List.forall_mem_cons.mpr ⟨⟨RX6, TX6, 7, rfl, by decide, zmem 236 rfl rfl⟩, fun _ h => absurd h List.not_mem_nil⟩⟩⟩⟩⟩⟩⟩⟩⟩⟩⟩⟩⟩⟩⟩⟩⟩⟩⟩⟩⟩⟩⟩⟩⟩⟩⟩⟩⟩⟩⟩⟩⟩⟩⟩⟩⟩⟩⟩
def zFT_11 : List (Nat × Nat × Nat) := [(7, 11, 0), (13, 11, 1), (16, 11, 2), (19, 11, 4), (22, 11, 11), (25, 11, 12), (28, 11, 14), (31, 11, 15), (35, 11, 16), (38, 11, 17), (41, 11, 18), (44, 11, 21), (47, 11, 22), (50, 11, 23), (53, 11, 24), (67, 11, 6), (70, 11, 7), (73, 11, 8), (76, 11, 5), (83, 11, 10), (87, 11, 13), (113, 11, 9), (295, 11, 19), (301, 11, 20), (316, 11, 3)]
set_option maxRecDepth 100000 in
theorem zFT_11_ok : ∀ q ∈ zFT_11, ∃ (C : String) (T : u_T) (N : Nat), zcl[q.2.1]? = some (C, T, N) ∧ q.2.2 < N ∧ Cond.fieldLink (zon 11) q.1 (T q.2.2).1 (T q.2.2).2.1 (T q.2.2).2.2.1 ∈ zTb := List.forall_mem_cons.mpr ⟨⟨RX11, TX11, 25, rfl, by decide, zmem 889 rfl rfl⟩, List.forall_mem_cons.mpr ⟨⟨RX11, TX11, 25, rfl, by decide, zmem 890 rfl rfl⟩, List.forall_mem_cons.mpr ⟨⟨RX11, TX11, 25, rfl, by decide, zmem 891 rfl rfl⟩, List.forall_mem_cons.mpr ⟨⟨RX11, TX11, 25, rfl, by decide, zmem 893 rfl rfl⟩, List.forall_mem_cons.mpr ⟨⟨RX11, TX11, 25, rfl, by decide, zmem 900 rfl rfl⟩, List.forall_mem_cons.mpr ⟨⟨RX11, TX11, 25, rfl, by decide, zmem 901 rfl rfl⟩, List.forall_mem_cons.mpr ⟨⟨RX11, TX11, 25, rfl, by decide, zmem 903 rfl rfl⟩, List.forall_mem_cons.mpr ⟨⟨RX11, TX11, 25, rfl, by decide, zmem 904 rfl rfl⟩, List.forall_mem_cons.mpr ⟨⟨RX11, TX11, 25, rfl, by decide, zmem 905 rfl rfl⟩, List.forall_mem_cons.mpr ⟨⟨RX11, TX11, 25, rfl, by decide, zmem 906 rfl rfl⟩, List.forall_mem_cons.mpr ⟨⟨RX11, TX11, 25, rfl, by decide, zmem 907 rfl rfl⟩, List.forall_mem_cons.mpr ⟨⟨RX11, TX11, 25, rfl, by decide, zmem 910 rfl rfl⟩, List.forall_mem_cons.mpr ⟨⟨RX11, TX11, 25, rfl, by decide, zmem 911 rfl rfl⟩, List.forall_mem_cons.mpr ⟨⟨RX11, TX11, 25, rfl, by decide, zmem 912 rfl rfl⟩, List.forall_mem_cons.mpr ⟨⟨RX11, TX11, 25, rfl, by decide, zmem 913 rfl rfl⟩, List.forall_mem_cons.mpr ⟨⟨RX11, TX11, 25, rfl, by decide, zmem 895 rfl rfl⟩, List.forall_mem_cons.mpr ⟨⟨RX11, TX11, 25, rfl, by decide, zmem 896 rfl rfl⟩, List.forall_mem_cons.mpr ⟨⟨RX11, TX11, 25, rfl, by decide, zmem 897 rfl rfl⟩, List.forall_mem_cons.mpr ⟨⟨RX11, TX11, 25, rfl, by decide, zmem 894 rfl rfl⟩, List.forall_mem_cons.mpr ⟨⟨RX11, TX11, 25, rfl, by decide, zmem 899 rfl rfl⟩, List.forall_mem_cons.mpr ⟨⟨RX11, TX11, 25, rfl, by decide, zmem 902 rfl rfl⟩, List.forall_mem_cons.mpr ⟨⟨RX11, TX11, 25, rfl, by decide, zmem 898 rfl rfl⟩, List.forall_mem_cons.mpr ⟨⟨RX11, TX11, 25, rfl, by decide, zmem 908 rfl rfl⟩, List.forall_mem_cons.mpr ⟨⟨RX11, TX11, 25, rfl, by decide, zmem 909 rfl rfl⟩, List.forall_mem_cons.mpr ⟨⟨RX11, TX11, 25, rfl, by decide, zmem 892 rfl rfl⟩, fun _ h => absurd h List.not_mem_nil⟩⟩⟩⟩⟩⟩⟩⟩⟩⟩⟩⟩⟩⟩⟩⟩⟩⟩⟩⟩⟩⟩⟩⟩⟩
def zFT_12 : List (Nat × Nat × Nat) := []
set_option maxRecDepth 100000 in
theorem zFT_12_ok : ∀ q ∈ zFT_12, ∃ (C : String) (T : u_T) (N : Nat), zcl[q.2.1]? = some (C, T, N) ∧ q.2.2 < N ∧ Cond.fieldLink (zon 12) q.1 (T q.2.2).1 (T q.2.2).2.1 (T q.2.2).2.2.1 ∈ zTb := fun _ h => absurd h List.not_mem_nil
def zFT_13 : List (Nat × Nat × Nat) := []
set_option maxRecDepth 100000 in
theorem zFT_13_ok : ∀ q ∈ zFT_13, ∃ (C : String) (T : u_T) (N : Nat), zcl[q.2.1]? = some (C, T, N) ∧ q.2.2 < N ∧ Cond.fieldLink (zon 13) q.1 (T q.2.2).1 (T q.2.2).2.1 (T q.2.2).2.2.1 ∈ zTb := fun _ h => absurd h List.not_mem_nil
def zFT : Nat → List (Nat × Nat × Nat) := fun o => match o with
  | 0 => zFT_0
  | 1 => zFT_1
  | 2 => zFT_2
  | 3 => zFT_3
  | 4 => zFT_4
  | 5 => zFT_5
  | 6 => zFT_6
  | 7 => zFT_7
  | 8 => zFT_8
  | 9 => zFT_9
  | 10 => zFT_10
  | 11 => zFT_11
  | 12 => zFT_12
  | 13 => zFT_13
  | _ => []
theorem zFT_ok : ∀ o, ∀ q ∈ zFT o, ∃ (C : String) (T : u_T) (N : Nat), zcl[q.2.1]? = some (C, T, N) ∧ q.2.2 < N ∧ Cond.fieldLink (zon o) q.1 (T q.2.2).1 (T q.2.2).2.1 (T q.2.2).2.2.1 ∈ zTb := fun o => match o with
  | 0 => zFT_0_ok
  | 1 => zFT_1_ok
  | 2 => zFT_2_ok
  | 3 => zFT_3_ok
  | 4 => zFT_4_ok
  | 5 => zFT_5_ok
  | 6 => zFT_6_ok
  | 7 => zFT_7_ok
  | 8 => zFT_8_ok
  | 9 => zFT_9_ok
  | 10 => zFT_10_ok
  | 11 => zFT_11_ok
  | 12 => zFT_12_ok
  | 13 => zFT_13_ok
  | _ + 14 => fun _ h => absurd h List.not_mem_nil
def zMT_0 : List (Nat × Nat) := []
set_option maxRecDepth 100000 in
theorem zMT_0_ok : ∀ q ∈ zMT_0, Cond.methodLink (zon 0) q.1 (zm q.2).1 ∈ zTb ∨ Cond.methodLinkNest (zon 0) q.1 (zm q.2).1 RX10 ∈ zNest := fun _ h => absurd h List.not_mem_nil
def zMT_1 : List (Nat × Nat) := [(35, 5), (39, 22), (43, 23), (46, 6), (50, 223), (65, 7), (68, 13), (71, 21), (103, 9), (107, 10), (110, 11), (113, 12), (120, 8), (123, 14), (126, 26)]
set_option maxRecDepth 100000 in
theorem zMT_1_ok : ∀ q ∈ zMT_1, Cond.methodLink (zon 1) q.1 (zm q.2).1 ∈ zTb ∨ Cond.methodLinkNest (zon 1) q.1 (zm q.2).1 RX10 ∈ zNest := List.forall_mem_cons.mpr ⟨Or.inl (zmem 632 rfl rfl), List.forall_mem_cons.mpr ⟨Or.inl (zmem 633 rfl rfl), List.forall_mem_cons.mpr ⟨Or.inl (zmem 642 rfl rfl), List.forall_mem_cons.mpr ⟨Or.inl (zmem 456 rfl rfl), List.forall_mem_cons.mpr ⟨Or.inl (zmem 467 rfl rfl), List.forall_mem_cons.mpr ⟨Or.inl (zmem 470 rfl rfl), List.forall_mem_cons.mpr ⟨Or.inl (zmem 493 rfl rfl), List.forall_mem_cons.mpr ⟨Or.inl (zmem 460 rfl rfl), List.forall_mem_cons.mpr ⟨Or.inl (zmem 474 rfl rfl), List.forall_mem_cons.mpr ⟨Or.inl (zmem 482 rfl rfl), List.forall_mem_cons.mpr ⟨Or.inl (zmem 489 rfl rfl), List.forall_mem_cons.mpr ⟨Or.inl (zmem 486 rfl rfl), List.forall_mem_cons.mpr ⟨Or.inl (zmem 478 rfl rfl), List.forall_mem_cons.mpr ⟨Or.inl (zmem 497 rfl rfl), List.forall_mem_cons.mpr ⟨Or.inl (zmem 501 rfl rfl), fun _ h => absurd h List.not_mem_nil⟩⟩⟩⟩⟩⟩⟩⟩⟩⟩⟩⟩⟩⟩⟩
def zMT_2 : List (Nat × Nat) := [(37, 20), (47, 17), (54, 16), (57, 26)]
set_option maxRecDepth 100000 in
theorem zMT_2_ok : ∀ q ∈ zMT_2, Cond.methodLink (zon 2) q.1 (zm q.2).1 ∈ zTb ∨ Cond.methodLinkNest (zon 2) q.1 (zm q.2).1 RX10 ∈ zNest := List.forall_mem_cons.mpr ⟨Or.inl (zmem 107 rfl rfl), List.forall_mem_cons.mpr ⟨Or.inl (zmem 650 rfl rfl), List.forall_mem_cons.mpr ⟨Or.inl (zmem 637 rfl rfl), List.forall_mem_cons.mpr ⟨Or.inl (zmem 640 rfl rfl), fun _ h => absurd h List.not_mem_nil⟩⟩⟩⟩
def zMT_3 : List (Nat × Nat) := [(11, 40), (31, 27), (35, 28)]
set_option maxRecDepth 100000 in
theorem zMT_3_ok : ∀ q ∈ zMT_3, Cond.methodLink (zon 3) q.1 (zm q.2).1 ∈ zTb ∨ Cond.methodLinkNest (zon 3) q.1 (zm q.2).1 RX10 ∈ zNest := List.forall_mem_cons.mpr ⟨Or.inl (zmem 193 rfl rfl), List.forall_mem_cons.mpr ⟨Or.inl (zmem 505 rfl rfl), List.forall_mem_cons.mpr ⟨Or.inl (zmem 508 rfl rfl), fun _ h => absurd h List.not_mem_nil⟩⟩⟩
def zMT_4 : List (Nat × Nat) := [(11, 40), (36, 31), (40, 36), (43, 32), (46, 35), (50, 39), (56, 41), (60, 37), (63, 33), (66, 38), (69, 34)]
set_option maxRecDepth 100000 in
theorem zMT_4_ok : ∀ q ∈ zMT_4, Cond.methodLink (zon 4) q.1 (zm q.2).1 ∈ zTb ∨ Cond.methodLinkNest (zon 4) q.1 (zm q.2).1 RX10 ∈ zNest := List.forall_mem_cons.mpr ⟨Or.inl (zmem 304 rfl rfl), List.forall_mem_cons.mpr ⟨Or.inl (zmem 570 rfl rfl), List.forall_mem_cons.mpr ⟨Or.inl (zmem 600 rfl rfl), List.forall_mem_cons.mpr ⟨Or.inl (zmem 574 rfl rfl), List.forall_mem_cons.mpr ⟨Or.inl (zmem 578 rfl rfl), List.forall_mem_cons.mpr ⟨Or.inl (zmem 604 rfl rfl), List.forall_mem_cons.mpr ⟨Or.inl (zmem 589 rfl rfl), List.forall_mem_cons.mpr ⟨Or.inl (zmem 582 rfl rfl), List.forall_mem_cons.mpr ⟨Or.inl (zmem 585 rfl rfl), List.forall_mem_cons.mpr ⟨Or.inl (zmem 590 rfl rfl), List.forall_mem_cons.mpr ⟨Or.inl (zmem 596 rfl rfl), fun _ h => absurd h List.not_mem_nil⟩⟩⟩⟩⟩⟩⟩⟩⟩⟩⟩
def zMT_5 : List (Nat × Nat) := []
set_option maxRecDepth 100000 in
theorem zMT_5_ok : ∀ q ∈ zMT_5, Cond.methodLink (zon 5) q.1 (zm q.2).1 ∈ zTb ∨ Cond.methodLinkNest (zon 5) q.1 (zm q.2).1 RX10 ∈ zNest := fun _ h => absurd h List.not_mem_nil
def zMT_6 : List (Nat × Nat) := [(11, 15), (20, 0), (27, 25), (37, 40), (52, 24), (56, 2), (62, 42)]
set_option maxRecDepth 100000 in
theorem zMT_6_ok : ∀ q ∈ zMT_6, Cond.methodLink (zon 6) q.1 (zm q.2).1 ∈ zTb ∨ Cond.methodLinkNest (zon 6) q.1 (zm q.2).1 RX10 ∈ zNest := List.forall_mem_cons.mpr ⟨Or.inl (zmem 103 rfl rfl), List.forall_mem_cons.mpr ⟨Or.inr (List.mem_of_getElem? (i := 1) rfl), List.forall_mem_cons.mpr ⟨Or.inr (List.mem_of_getElem? (i := 2) rfl), List.forall_mem_cons.mpr ⟨Or.inl (zmem 224 rfl rfl), List.forall_mem_cons.mpr ⟨Or.inl (zmem 853 rfl rfl), List.forall_mem_cons.mpr ⟨Or.inl (zmem 854 rfl rfl), List.forall_mem_cons.mpr ⟨Or.inl (zmem 855 rfl rfl), fun _ h => absurd h List.not_mem_nil⟩⟩⟩⟩⟩⟩⟩
def zMT_7 : List (Nat × Nat) := [(22, 223)]
set_option maxRecDepth 100000 in
theorem zMT_7_ok : ∀ q ∈ zMT_7, Cond.methodLink (zon 7) q.1 (zm q.2).1 ∈ zTb ∨ Cond.methodLinkNest (zon 7) q.1 (zm q.2).1 RX10 ∈ zNest := List.forall_mem_cons.mpr ⟨Or.inl (zmem 818 rfl rfl), fun _ h => absurd h List.not_mem_nil⟩
def zMT_8 : List (Nat × Nat) := [(11, 40), (40, 53), (50, 41), (54, 54)]
set_option maxRecDepth 100000 in
theorem zMT_8_ok : ∀ q ∈ zMT_8, Cond.methodLink (zon 8) q.1 (zm q.2).1 ∈ zTb ∨ Cond.methodLinkNest (zon 8) q.1 (zm q.2).1 RX10 ∈ zNest := List.forall_mem_cons.mpr ⟨Or.inl (zmem 348 rfl rfl), List.forall_mem_cons.mpr ⟨Or.inl (zmem 794 rfl rfl), List.forall_mem_cons.mpr ⟨Or.inl (zmem 801 rfl rfl), List.forall_mem_cons.mpr ⟨Or.inl (zmem 802 rfl rfl), fun _ h => absurd h List.not_mem_nil⟩⟩⟩⟩
def zMT_9 : List (Nat × Nat) := [(26, 223), (32, 57), (36, 58), (40, 16), (57, 61), (61, 62), (65, 64)]
set_option maxRecDepth 100000 in
theorem zMT_9_ok : ∀ q ∈ zMT_9, Cond.methodLink (zon 9) q.1 (zm q.2).1 ∈ zTb ∨ Cond.methodLinkNest (zon 9) q.1 (zm q.2).1 RX10 ∈ zNest := List.forall_mem_cons.mpr ⟨Or.inl (zmem 727 rfl rfl), List.forall_mem_cons.mpr ⟨Or.inl (zmem 728 rfl rfl), List.forall_mem_cons.mpr ⟨Or.inl (zmem 732 rfl rfl), List.forall_mem_cons.mpr ⟨Or.inl (zmem 736 rfl rfl), List.forall_mem_cons.mpr ⟨Or.inl (zmem 746 rfl rfl), List.forall_mem_cons.mpr ⟨Or.inl (zmem 750 rfl rfl), List.forall_mem_cons.mpr ⟨Or.inl (zmem 763 rfl rfl), fun _ h => absurd h List.not_mem_nil⟩⟩⟩⟩⟩⟩⟩
def zMT_10 : List (Nat × Nat) := [(11, 43), (36, 3), (45, 15), (48, 0), (58, 29), (67, 55), (76, 51), (91, 47), (92, 111), (97, 110), (104, 19), (111, 70), (117, 20), (130, 5), (133, 21), (153, 112), (157, 6), (161, 7), (164, 13), (167, 1), (174, 41), (177, 30), (180, 44), (190, 42), (193, 26), (200, 4), (203, 18), (207, 45), (210, 113), (213, 114), (222, 115), (226, 56), (230, 59), (234, 63), (237, 60), (240, 116), (246, 52), (256, 48), (260, 49), (263, 50), (278, 46), (287, 117), (292, 24), (294, 2)]
set_option maxRecDepth 100000 in
theorem zMT_10_ok : ∀ q ∈ zMT_10, Cond.methodLink (zon 10) q.1 (zm q.2).1 ∈ zTb ∨ Cond.methodLinkNest (zon 10) q.1 (zm q.2).1 RX10 ∈ zNest := List.forall_mem_cons.mpr ⟨Or.inr (List.mem_of_getElem? (i := 0) rfl), List.forall_mem_cons.mpr ⟨Or.inl (zmem 256 rfl rfl), List.forall_mem_cons.mpr ⟨Or.inl (zmem 294 rfl rfl), List.forall_mem_cons.mpr ⟨Or.inr (List.mem_of_getElem? (i := 3) rfl), List.forall_mem_cons.mpr ⟨Or.inl (zmem 299 rfl rfl), List.forall_mem_cons.mpr ⟨Or.inl (zmem 324 rfl rfl), List.forall_mem_cons.mpr ⟨Or.inr (List.mem_of_getElem? (i := 4) rfl), List.forall_mem_cons.mpr ⟨Or.inr (List.mem_of_getElem? (i := 5) rfl), List.forall_mem_cons.mpr ⟨Or.inl (zmem 418 rfl rfl), List.forall_mem_cons.mpr ⟨Or.inl (zmem 422 rfl rfl), List.forall_mem_cons.mpr ⟨Or.inl (zmem 431 rfl rfl), List.forall_mem_cons.mpr ⟨Or.inl (zmem 444 rfl rfl), List.forall_mem_cons.mpr ⟨Or.inl (zmem 447 rfl rfl), List.forall_mem_cons.mpr ⟨Or.inl (zmem 452 rfl rfl), List.forall_mem_cons.mpr ⟨Or.inl (zmem 515 rfl rfl), List.forall_mem_cons.mpr ⟨Or.inl (zmem 529 rfl rfl), List.forall_mem_cons.mpr ⟨Or.inl (zmem 533 rfl rfl), List.forall_mem_cons.mpr ⟨Or.inl (zmem 534 rfl rfl), List.forall_mem_cons.mpr ⟨Or.inl (zmem 535 rfl rfl), List.forall_mem_cons.mpr ⟨Or.inl (zmem 548 rfl rfl), List.forall_mem_cons.mpr ⟨Or.inl (zmem 558 rfl rfl), List.forall_mem_cons.mpr ⟨Or.inl (zmem 566 rfl rfl), List.forall_mem_cons.mpr ⟨Or.inl (zmem 607 rfl rfl), List.forall_mem_cons.mpr ⟨Or.inl (zmem 611 rfl rfl), List.forall_mem_cons.mpr ⟨Or.inl (zmem 623 rfl rfl), List.forall_mem_cons.mpr ⟨Or.inl (zmem 628 rfl rfl), List.forall_mem_cons.mpr ⟨Or.inl (zmem 646 rfl rfl), List.forall_mem_cons.mpr ⟨Or.inl (zmem 658 rfl rfl), List.forall_mem_cons.mpr ⟨Or.inl (zmem 667 rfl rfl), List.forall_mem_cons.mpr ⟨Or.inl (zmem 681 rfl rfl), List.forall_mem_cons.mpr ⟨Or.inl (zmem 710 rfl rfl), List.forall_mem_cons.mpr ⟨Or.inl (zmem 722 rfl rfl), List.forall_mem_cons.mpr ⟨Or.inl (zmem 742 rfl rfl), List.forall_mem_cons.mpr ⟨Or.inl (zmem 759 rfl rfl), List.forall_mem_cons.mpr ⟨Or.inl (zmem 771 rfl rfl), List.forall_mem_cons.mpr ⟨Or.inl (zmem 779 rfl rfl), List.forall_mem_cons.mpr ⟨Or.inl (zmem 790 rfl rfl), List.forall_mem_cons.mpr ⟨Or.inl (zmem 814 rfl rfl), List.forall_mem_cons.mpr ⟨Or.inl (zmem 823 rfl rfl), List.forall_mem_cons.mpr ⟨Or.inl (zmem 831 rfl rfl), List.forall_mem_cons.mpr ⟨Or.inl (zmem 849 rfl rfl), List.forall_mem_cons.mpr ⟨Or.inl (zmem 872 rfl rfl), List.forall_mem_cons.mpr ⟨Or.inl (zmem 671 rfl rfl), List.forall_mem_cons.mpr ⟨Or.inl (zmem 676 rfl rfl), fun _ h => absurd h List.not_mem_nil⟩⟩⟩⟩⟩⟩⟩⟩⟩⟩⟩⟩⟩⟩⟩⟩⟩⟩⟩⟩⟩⟩⟩⟩⟩⟩⟩⟩⟩⟩⟩⟩⟩⟩⟩⟩⟩⟩⟩⟩⟩⟩⟩⟩
def zMT_11 : List (Nat × Nat) := [(56, 154), (61, 120), (79, 132), (90, 138), (93, 134), (97, 136), (101, 139), (104, 140), (107, 141), (110, 143), (116, 133), (119, 137), (122, 142), (125, 135), (133, 145), (139, 119), (144, 144), (148, 146), (152, 121), (155, 149), (159, 122), (161, 127), (164, 151), (167, 126), (170, 155), (173, 157), (176, 156), (179, 159), (182, 158), (185, 160), (188, 152), (191, 161), (194, 153), (197, 162), (200, 163), (203, 124), (208, 129), (211, 166), (216, 125), (227, 172), (230, 123), (237, 128), (242, 178), (245, 164), (251, 180), (254, 183), (257, 130), (260, 131), (263, 186), (269, 210), (272, 191), (276, 195), (279, 194), (287, 198), (292, 201), (298, 203), (304, 204), (307, 205), (310, 206), (313, 207), (319, 220)]
set_option maxRecDepth 100000 in
theorem zMT_11_ok : ∀ q ∈ zMT_11, Cond.methodLink (zon 11) q.1 (zm q.2).1 ∈ zTb ∨ Cond.methodLinkNest (zon 11) q.1 (zm q.2).1 RX10 ∈ zNest := List.forall_mem_cons.mpr ⟨Or.inl (zmem 885 rfl rfl), List.forall_mem_cons.mpr ⟨Or.inl (zmem 970 rfl rfl), List.forall_mem_cons.mpr ⟨Or.inl (zmem 1011 rfl rfl), List.forall_mem_cons.mpr ⟨Or.inl (zmem 991 rfl rfl), List.forall_mem_cons.mpr ⟨Or.inl (zmem 1027 rfl rfl), List.forall_mem_cons.mpr ⟨Or.inl (zmem 1023 rfl rfl), List.forall_mem_cons.mpr ⟨Or.inl (zmem 995 rfl rfl), List.forall_mem_cons.mpr ⟨Or.inl (zmem 999 rfl rfl), List.forall_mem_cons.mpr ⟨Or.inl (zmem 1003 rfl rfl), List.forall_mem_cons.mpr ⟨Or.inl (zmem 1007 rfl rfl), List.forall_mem_cons.mpr ⟨Or.inl (zmem 1019 rfl rfl), List.forall_mem_cons.mpr ⟨Or.inl (zmem 987 rfl rfl), List.forall_mem_cons.mpr ⟨Or.inl (zmem 1015 rfl rfl), List.forall_mem_cons.mpr ⟨Or.inl (zmem 1031 rfl rfl), List.forall_mem_cons.mpr ⟨Or.inl (zmem 1049 rfl rfl), List.forall_mem_cons.mpr ⟨Or.inl (zmem 973 rfl rfl), List.forall_mem_cons.mpr ⟨Or.inl (zmem 983 rfl rfl), List.forall_mem_cons.mpr ⟨Or.inl (zmem 1045 rfl rfl), List.forall_mem_cons.mpr ⟨Or.inl (zmem 1052 rfl rfl), List.forall_mem_cons.mpr ⟨Or.inl (zmem 1041 rfl rfl), List.forall_mem_cons.mpr ⟨Or.inl (zmem 1115 rfl rfl), List.forall_mem_cons.mpr ⟨Or.inl (zmem 1076 rfl rfl), List.forall_mem_cons.mpr ⟨Or.inl (zmem 1125 rfl rfl), List.forall_mem_cons.mpr ⟨Or.inl (zmem 1103 rfl rfl), List.forall_mem_cons.mpr ⟨Or.inl (zmem 1111 rfl rfl), List.forall_mem_cons.mpr ⟨Or.inl (zmem 1118 rfl rfl), List.forall_mem_cons.mpr ⟨Or.inl (zmem 1121 rfl rfl), List.forall_mem_cons.mpr ⟨Or.inl (zmem 1132 rfl rfl), List.forall_mem_cons.mpr ⟨Or.inl (zmem 1107 rfl rfl), List.forall_mem_cons.mpr ⟨Or.inl (zmem 1128 rfl rfl), List.forall_mem_cons.mpr ⟨Or.inl (zmem 1198 rfl rfl), List.forall_mem_cons.mpr ⟨Or.inl (zmem 1099 rfl rfl), List.forall_mem_cons.mpr ⟨Or.inl (zmem 1190 rfl rfl), List.forall_mem_cons.mpr ⟨Or.inl (zmem 1194 rfl rfl), List.forall_mem_cons.mpr ⟨Or.inl (zmem 1186 rfl rfl), List.forall_mem_cons.mpr ⟨Or.inl (zmem 1059 rfl rfl), List.forall_mem_cons.mpr ⟨Or.inl (zmem 1064 rfl rfl), List.forall_mem_cons.mpr ⟨Or.inl (zmem 1072 rfl rfl), List.forall_mem_cons.mpr ⟨Or.inl (zmem 1089 rfl rfl), List.forall_mem_cons.mpr ⟨Or.inl (zmem 1144 rfl rfl), List.forall_mem_cons.mpr ⟨Or.inl (zmem 1152 rfl rfl), List.forall_mem_cons.mpr ⟨Or.inl (zmem 1170 rfl rfl), List.forall_mem_cons.mpr ⟨Or.inl (zmem 1178 rfl rfl), List.forall_mem_cons.mpr ⟨Or.inl (zmem 1182 rfl rfl), List.forall_mem_cons.mpr ⟨Or.inl (zmem 1206 rfl rfl), List.forall_mem_cons.mpr ⟨Or.inl (zmem 1219 rfl rfl), List.forall_mem_cons.mpr ⟨Or.inl (zmem 1222 rfl rfl), List.forall_mem_cons.mpr ⟨Or.inl (zmem 1226 rfl rfl), List.forall_mem_cons.mpr ⟨Or.inl (zmem 1238 rfl rfl), List.forall_mem_cons.mpr ⟨Or.inl (zmem 1260 rfl rfl), List.forall_mem_cons.mpr ⟨Or.inl (zmem 1264 rfl rfl), List.forall_mem_cons.mpr ⟨Or.inl (zmem 1280 rfl rfl), List.forall_mem_cons.mpr ⟨Or.inl (zmem 1276 rfl rfl), List.forall_mem_cons.mpr ⟨Or.inl (zmem 1293 rfl rfl), List.forall_mem_cons.mpr ⟨Or.inl (zmem 1306 rfl rfl), List.forall_mem_cons.mpr ⟨Or.inl (zmem 1317 rfl rfl), List.forall_mem_cons.mpr ⟨Or.inl (zmem 1313 rfl rfl), List.forall_mem_cons.mpr ⟨Or.inl (zmem 1321 rfl rfl), List.forall_mem_cons.mpr ⟨Or.inl (zmem 1325 rfl rfl), List.forall_mem_cons.mpr ⟨Or.inl (zmem 1329 rfl rfl), List.forall_mem_cons.mpr ⟨Or.inl (zmem 1377 rfl rfl), fun _ h => absurd h List.not_mem_nil⟩⟩⟩⟩⟩⟩⟩⟩⟩⟩⟩⟩⟩⟩⟩⟩⟩⟩⟩⟩⟩⟩⟩⟩⟩⟩⟩⟩⟩⟩⟩⟩⟩⟩⟩⟩⟩⟩⟩⟩⟩⟩⟩⟩⟩⟩⟩⟩⟩⟩⟩⟩⟩⟩⟩⟩⟩⟩⟩⟩⟩
def zMT_12 : List (Nat × Nat) := []
set_option maxRecDepth 100000 in
theorem zMT_12_ok : ∀ q ∈ zMT_12, Cond.methodLink (zon 12) q.1 (zm q.2).1 ∈ zTb ∨ Cond.methodLinkNest (zon 12) q.1 (zm q.2).1 RX10 ∈ zNest := fun _ h => absurd h List.not_mem_nil
def zMT_13 : List (Nat × Nat) := [(9, 65), (12, 118), (13, 66), (17, 165), (18, 67), (21, 167), (22, 68), (25, 168), (26, 69), (30, 169), (31, 71), (34, 170), (35, 72), (39, 171), (40, 73), (43, 173), (44, 74), (47, 174), (48, 75), (51, 175), (52, 76), (55, 176), (56, 77), (59, 177), (62, 78), (66, 147), (67, 79), (70, 148), (71, 80), (75, 150), (76, 81), (79, 179), (80, 82), (83, 181), (84, 83), (87, 184), (88, 84), (92, 185), (93, 85), (96, 187), (97, 86), (100, 188), (101, 87), (104, 189), (105, 88), (108, 190), (109, 89), (112, 192), (113, 90), (116, 193), (117, 91), (120, 196), (121, 92), (124, 197), (125, 93), (128, 199), (129, 94), (132, 200), (133, 95), (136, 202), (137, 96), (140, 182), (141, 97), (144, 208), (145, 98), (148, 209), (149, 99), (152, 211), (153, 100), (156, 212), (157, 101), (161, 213), (162, 102), (165, 214), (166, 103), (169, 215), (170, 104), (173, 216), (174, 105), (177, 217), (178, 106), (181, 218), (182, 107), (185, 219), (186, 108), (189, 221), (190, 109), (193, 222)]
set_option maxRecDepth 100000 in
theorem zMT_13_ok : ∀ q ∈ zMT_13, Cond.methodLink (zon 13) q.1 (zm q.2).1 ∈ zTb ∨ Cond.methodLinkNest (zon 13) q.1 (zm q.2).1 RX10 ∈ zNest := List.forall_mem_cons.mpr ⟨Or.inl (zmem 89 rfl rfl), List.forall_mem_cons.mpr ⟨Or.inl (zmem 881 rfl rfl), List.forall_mem_cons.mpr ⟨Or.inl (zmem 414 rfl rfl), List.forall_mem_cons.mpr ⟨Or.inl (zmem 1055 rfl rfl), List.forall_mem_cons.mpr ⟨Or.inl (zmem 427 rfl rfl), List.forall_mem_cons.mpr ⟨Or.inl (zmem 1068 rfl rfl), List.forall_mem_cons.mpr ⟨Or.inl (zmem 436 rfl rfl), List.forall_mem_cons.mpr ⟨Or.inl (zmem 1080 rfl rfl), List.forall_mem_cons.mpr ⟨Or.inl (zmem 440 rfl rfl), List.forall_mem_cons.mpr ⟨Or.inl (zmem 1085 rfl rfl), List.forall_mem_cons.mpr ⟨Or.inl (zmem 448 rfl rfl), List.forall_mem_cons.mpr ⟨Or.inl (zmem 1094 rfl rfl), List.forall_mem_cons.mpr ⟨Or.inl (zmem 516 rfl rfl), List.forall_mem_cons.mpr ⟨Or.inl (zmem 1136 rfl rfl), List.forall_mem_cons.mpr ⟨Or.inl (zmem 520 rfl rfl), List.forall_mem_cons.mpr ⟨Or.inl (zmem 1140 rfl rfl), List.forall_mem_cons.mpr ⟨Or.inl (zmem 525 rfl rfl), List.forall_mem_cons.mpr ⟨Or.inl (zmem 1148 rfl rfl), List.forall_mem_cons.mpr ⟨Or.inl (zmem 536 rfl rfl), List.forall_mem_cons.mpr ⟨Or.inl (zmem 1157 rfl rfl), List.forall_mem_cons.mpr ⟨Or.inl (zmem 540 rfl rfl), List.forall_mem_cons.mpr ⟨Or.inl (zmem 1161 rfl rfl), List.forall_mem_cons.mpr ⟨Or.inl (zmem 544 rfl rfl), List.forall_mem_cons.mpr ⟨Or.inl (zmem 1165 rfl rfl), List.forall_mem_cons.mpr ⟨Or.inl (zmem 554 rfl rfl), List.forall_mem_cons.mpr ⟨Or.inl (zmem 965 rfl rfl), List.forall_mem_cons.mpr ⟨Or.inl (zmem 562 rfl rfl), List.forall_mem_cons.mpr ⟨Or.inl (zmem 979 rfl rfl), List.forall_mem_cons.mpr ⟨Or.inl (zmem 619 rfl rfl), List.forall_mem_cons.mpr ⟨Or.inl (zmem 1037 rfl rfl), List.forall_mem_cons.mpr ⟨Or.inl (zmem 624 rfl rfl), List.forall_mem_cons.mpr ⟨Or.inl (zmem 1173 rfl rfl), List.forall_mem_cons.mpr ⟨Or.inl (zmem 654 rfl rfl), List.forall_mem_cons.mpr ⟨Or.inl (zmem 1201 rfl rfl), List.forall_mem_cons.mpr ⟨Or.inl (zmem 663 rfl rfl), List.forall_mem_cons.mpr ⟨Or.inl (zmem 1215 rfl rfl), List.forall_mem_cons.mpr ⟨Or.inl (zmem 685 rfl rfl), List.forall_mem_cons.mpr ⟨Or.inl (zmem 1230 rfl rfl), List.forall_mem_cons.mpr ⟨Or.inl (zmem 690 rfl rfl), List.forall_mem_cons.mpr ⟨Or.inl (zmem 1234 rfl rfl), List.forall_mem_cons.mpr ⟨Or.inl (zmem 694 rfl rfl), List.forall_mem_cons.mpr ⟨Or.inl (zmem 1242 rfl rfl), List.forall_mem_cons.mpr ⟨Or.inl (zmem 698 rfl rfl), List.forall_mem_cons.mpr ⟨Or.inl (zmem 1247 rfl rfl), List.forall_mem_cons.mpr ⟨Or.inl (zmem 702 rfl rfl), List.forall_mem_cons.mpr ⟨Or.inl (zmem 1252 rfl rfl), List.forall_mem_cons.mpr ⟨Or.inl (zmem 706 rfl rfl), List.forall_mem_cons.mpr ⟨Or.inl (zmem 1256 rfl rfl), List.forall_mem_cons.mpr ⟨Or.inl (zmem 714 rfl rfl), List.forall_mem_cons.mpr ⟨Or.inl (zmem 1268 rfl rfl), List.forall_mem_cons.mpr ⟨Or.inl (zmem 718 rfl rfl), List.forall_mem_cons.mpr ⟨Or.inl (zmem 1272 rfl rfl), List.forall_mem_cons.mpr ⟨Or.inl (zmem 738 rfl rfl), List.forall_mem_cons.mpr ⟨Or.inl (zmem 1284 rfl rfl), List.forall_mem_cons.mpr ⟨Or.inl (zmem 755 rfl rfl), List.forall_mem_cons.mpr ⟨Or.inl (zmem 1288 rfl rfl), List.forall_mem_cons.mpr ⟨Or.inl (zmem 767 rfl rfl), List.forall_mem_cons.mpr ⟨Or.inl (zmem 1297 rfl rfl), List.forall_mem_cons.mpr ⟨Or.inl (zmem 775 rfl rfl), List.forall_mem_cons.mpr ⟨Or.inl (zmem 1301 rfl rfl), List.forall_mem_cons.mpr ⟨Or.inl (zmem 782 rfl rfl), List.forall_mem_cons.mpr ⟨Or.inl (zmem 1211 rfl rfl), List.forall_mem_cons.mpr ⟨Or.inl (zmem 786 rfl rfl), List.forall_mem_cons.mpr ⟨Or.inl (zmem 1309 rfl rfl), List.forall_mem_cons.mpr ⟨Or.inl (zmem 806 rfl rfl), List.forall_mem_cons.mpr ⟨Or.inl (zmem 1333 rfl rfl), List.forall_mem_cons.mpr ⟨Or.inl (zmem 810 rfl rfl), List.forall_mem_cons.mpr ⟨Or.inl (zmem 1337 rfl rfl), List.forall_mem_cons.mpr ⟨Or.inl (zmem 819 rfl rfl), List.forall_mem_cons.mpr ⟨Or.inl (zmem 1341 rfl rfl), List.forall_mem_cons.mpr ⟨Or.inl (zmem 827 rfl rfl), List.forall_mem_cons.mpr ⟨Or.inl (zmem 1345 rfl rfl), List.forall_mem_cons.mpr ⟨Or.inl (zmem 836 rfl rfl), List.forall_mem_cons.mpr ⟨Or.inl (zmem 1349 rfl rfl), List.forall_mem_cons.mpr ⟨Or.inl (zmem 840 rfl rfl), List.forall_mem_cons.mpr ⟨Or.inl (zmem 1353 rfl rfl), List.forall_mem_cons.mpr ⟨Or.inl (zmem 845 rfl rfl), List.forall_mem_cons.mpr ⟨Or.inl (zmem 1357 rfl rfl), List.forall_mem_cons.mpr ⟨Or.inl (zmem 856 rfl rfl), List.forall_mem_cons.mpr ⟨Or.inl (zmem 1361 rfl rfl), List.forall_mem_cons.mpr ⟨Or.inl (zmem 860 rfl rfl), List.forall_mem_cons.mpr ⟨Or.inl (zmem 1365 rfl rfl), List.forall_mem_cons.mpr ⟨Or.inl (zmem 864 rfl rfl), List.forall_mem_cons.mpr ⟨Or.inl (zmem 1369 rfl rfl), List.forall_mem_cons.mpr ⟨Or.inl (zmem 868 rfl rfl), List.forall_mem_cons.mpr ⟨Or.inl (zmem 1373 rfl rfl), List.forall_mem_cons.mpr ⟨Or.inl (zmem 875 rfl rfl), List.forall_mem_cons.mpr ⟨Or.inl (zmem 1381 rfl rfl), fun _ h => absurd h List.not_mem_nil⟩⟩⟩⟩⟩⟩⟩⟩⟩⟩⟩⟩⟩⟩⟩⟩⟩⟩⟩⟩⟩⟩⟩⟩⟩⟩⟩⟩⟩⟩⟩⟩⟩⟩⟩⟩⟩⟩⟩⟩⟩⟩⟩⟩⟩⟩⟩⟩⟩⟩⟩⟩⟩⟩⟩⟩⟩⟩⟩⟩⟩⟩⟩⟩⟩⟩⟩⟩⟩⟩⟩⟩⟩⟩⟩⟩⟩⟩⟩⟩⟩⟩⟩⟩⟩⟩⟩⟩
def zMT : Nat → List (Nat × Nat) := fun o => match o with
  | 0 => zMT_0
  | 1 => zMT_1
  | 2 => zMT_2
  | 3 => zMT_3
  | 4 => zMT_4
  | 5 => zMT_5
  | 6 => zMT_6
  | 7 => zMT_7
  | 8 => zMT_8
  | 9 => zMT_9
  | 10 => zMT_10
  | 11 => zMT_11
  | 12 => zMT_12
  | 13 => zMT_13
  | _ => []
theorem zMT_ok : ∀ o, ∀ q ∈ zMT o, Cond.methodLink (zon o) q.1 (zm q.2).1 ∈ zTb ∨ Cond.methodLinkNest (zon o) q.1 (zm q.2).1 RX10 ∈ zNest := fun o => match o with
  | 0 => zMT_0_ok
  | 1 => zMT_1_ok
  | 2 => zMT_2_ok
  | 3 => zMT_3_ok
  | 4 => zMT_4_ok
  | 5 => zMT_5_ok
  | 6 => zMT_6_ok
  | 7 => zMT_7_ok
  | 8 => zMT_8_ok
  | 9 => zMT_9_ok
  | 10 => zMT_10_ok
  | 11 => zMT_11_ok
  | 12 => zMT_12_ok
  | 13 => zMT_13_ok
  | _ + 14 => fun _ h => absurd h List.not_mem_nil
def zHT_0 : List (Nat × Nat) := []
set_option maxRecDepth 100000 in
theorem zHT_0_ok : ∀ q ∈ zHT_0, Cond.methodLink (zon 0) q.1 (match q.2 with | 0 => Lib.Math.abs.name | 1 => Lib.Math.max.name | _ => Lib.Math.min.name) ∈ zTb := fun _ h => absurd h List.not_mem_nil
def zHT_1 : List (Nat × Nat) := [(85, 0)]
set_option maxRecDepth 100000 in
theorem zHT_1_ok : ∀ q ∈ zHT_1, Cond.methodLink (zon 1) q.1 (match q.2 with | 0 => Lib.Math.abs.name | 1 => Lib.Math.max.name | _ => Lib.Math.min.name) ∈ zTb := List.forall_mem_cons.mpr ⟨zmem 464 rfl rfl, fun _ h => absurd h List.not_mem_nil⟩
def zHT_2 : List (Nat × Nat) := [(41, 0), (63, 2)]
set_option maxRecDepth 100000 in
theorem zHT_2_ok : ∀ q ∈ zHT_2, Cond.methodLink (zon 2) q.1 (match q.2 with | 0 => Lib.Math.abs.name | 1 => Lib.Math.max.name | _ => Lib.Math.min.name) ∈ zTb := List.forall_mem_cons.mpr ⟨zmem 653 rfl rfl, List.forall_mem_cons.mpr ⟨zmem 641 rfl rfl, fun _ h => absurd h List.not_mem_nil⟩⟩
def zHT_3 : List (Nat × Nat) := [(39, 2), (45, 1)]
set_option maxRecDepth 100000 in
theorem zHT_3_ok : ∀ q ∈ zHT_3, Cond.methodLink (zon 3) q.1 (match q.2 with | 0 => Lib.Math.abs.name | 1 => Lib.Math.max.name | _ => Lib.Math.min.name) ∈ zTb := List.forall_mem_cons.mpr ⟨zmem 511 rfl rfl, List.forall_mem_cons.mpr ⟨zmem 514 rfl rfl, fun _ h => absurd h List.not_mem_nil⟩⟩
def zHT_4 : List (Nat × Nat) := []
set_option maxRecDepth 100000 in
theorem zHT_4_ok : ∀ q ∈ zHT_4, Cond.methodLink (zon 4) q.1 (match q.2 with | 0 => Lib.Math.abs.name | 1 => Lib.Math.max.name | _ => Lib.Math.min.name) ∈ zTb := fun _ h => absurd h List.not_mem_nil
def zHT_5 : List (Nat × Nat) := [(7, 1), (23, 2)]
set_option maxRecDepth 100000 in
theorem zHT_5_ok : ∀ q ∈ zHT_5, Cond.methodLink (zon 5) q.1 (match q.2 with | 0 => Lib.Math.abs.name | 1 => Lib.Math.max.name | _ => Lib.Math.min.name) ∈ zTb := List.forall_mem_cons.mpr ⟨zmem 197 rfl rfl, List.forall_mem_cons.mpr ⟨zmem 615 rfl rfl, fun _ h => absurd h List.not_mem_nil⟩⟩
def zHT_6 : List (Nat × Nat) := []
set_option maxRecDepth 100000 in
theorem zHT_6_ok : ∀ q ∈ zHT_6, Cond.methodLink (zon 6) q.1 (match q.2 with | 0 => Lib.Math.abs.name | 1 => Lib.Math.max.name | _ => Lib.Math.min.name) ∈ zTb := fun _ h => absurd h List.not_mem_nil
def zHT_7 : List (Nat × Nat) := []
set_option maxRecDepth 100000 in
theorem zHT_7_ok : ∀ q ∈ zHT_7, Cond.methodLink (zon 7) q.1 (match q.2 with | 0 => Lib.Math.abs.name | 1 => Lib.Math.max.name | _ => Lib.Math.min.name) ∈ zTb := fun _ h => absurd h List.not_mem_nil
def zHT_8 : List (Nat × Nat) := []
set_option maxRecDepth 100000 in
theorem zHT_8_ok : ∀ q ∈ zHT_8, Cond.methodLink (zon 8) q.1 (match q.2 with | 0 => Lib.Math.abs.name | 1 => Lib.Math.max.name | _ => Lib.Math.min.name) ∈ zTb := fun _ h => absurd h List.not_mem_nil
def zHT_9 : List (Nat × Nat) := [(46, 2)]
set_option maxRecDepth 100000 in
theorem zHT_9_ok : ∀ q ∈ zHT_9, Cond.methodLink (zon 9) q.1 (match q.2 with | 0 => Lib.Math.abs.name | 1 => Lib.Math.max.name | _ => Lib.Math.min.name) ∈ zTb := List.forall_mem_cons.mpr ⟨zmem 737 rfl rfl, fun _ h => absurd h List.not_mem_nil⟩
def zHT_10 : List (Nat × Nat) := [(273, 2)]
set_option maxRecDepth 100000 in
theorem zHT_10_ok : ∀ q ∈ zHT_10, Cond.methodLink (zon 10) q.1 (match q.2 with | 0 => Lib.Math.abs.name | 1 => Lib.Math.max.name | _ => Lib.Math.min.name) ∈ zTb := List.forall_mem_cons.mpr ⟨zmem 844 rfl rfl, fun _ h => absurd h List.not_mem_nil⟩
def zHT_11 : List (Nat × Nat) := []
set_option maxRecDepth 100000 in
theorem zHT_11_ok : ∀ q ∈ zHT_11, Cond.methodLink (zon 11) q.1 (match q.2 with | 0 => Lib.Math.abs.name | 1 => Lib.Math.max.name | _ => Lib.Math.min.name) ∈ zTb := fun _ h => absurd h List.not_mem_nil
def zHT_12 : List (Nat × Nat) := []
set_option maxRecDepth 100000 in
theorem zHT_12_ok : ∀ q ∈ zHT_12, Cond.methodLink (zon 12) q.1 (match q.2 with | 0 => Lib.Math.abs.name | 1 => Lib.Math.max.name | _ => Lib.Math.min.name) ∈ zTb := fun _ h => absurd h List.not_mem_nil
def zHT_13 : List (Nat × Nat) := []
set_option maxRecDepth 100000 in
theorem zHT_13_ok : ∀ q ∈ zHT_13, Cond.methodLink (zon 13) q.1 (match q.2 with | 0 => Lib.Math.abs.name | 1 => Lib.Math.max.name | _ => Lib.Math.min.name) ∈ zTb := fun _ h => absurd h List.not_mem_nil
def zHT : Nat → List (Nat × Nat) := fun o => match o with
  | 0 => zHT_0
  | 1 => zHT_1
  | 2 => zHT_2
  | 3 => zHT_3
  | 4 => zHT_4
  | 5 => zHT_5
  | 6 => zHT_6
  | 7 => zHT_7
  | 8 => zHT_8
  | 9 => zHT_9
  | 10 => zHT_10
  | 11 => zHT_11
  | 12 => zHT_12
  | 13 => zHT_13
  | _ => []
theorem zHT_ok : ∀ o, ∀ q ∈ zHT o, Cond.methodLink (zon o) q.1 (match q.2 with | 0 => Lib.Math.abs.name | 1 => Lib.Math.max.name | _ => Lib.Math.min.name) ∈ zTb := fun o => match o with
  | 0 => zHT_0_ok
  | 1 => zHT_1_ok
  | 2 => zHT_2_ok
  | 3 => zHT_3_ok
  | 4 => zHT_4_ok
  | 5 => zHT_5_ok
  | 6 => zHT_6_ok
  | 7 => zHT_7_ok
  | 8 => zHT_8_ok
  | 9 => zHT_9_ok
  | 10 => zHT_10_ok
  | 11 => zHT_11_ok
  | 12 => zHT_12_ok
  | 13 => zHT_13_ok
  | _ + 14 => fun _ h => absurd h List.not_mem_nil
def zOT_0 : List (Nat) := [3]
set_option maxRecDepth 100000 in
theorem zOT_0_ok : ∀ q ∈ zOT_0, Cond.methodLink (zon 0) q objectInit ∈ zTb := List.forall_mem_cons.mpr ⟨zmem 161 rfl rfl, fun _ h => absurd h List.not_mem_nil⟩
def zOT_1 : List (Nat) := [3]
set_option maxRecDepth 100000 in
theorem zOT_1_ok : ∀ q ∈ zOT_1, Cond.methodLink (zon 1) q objectInit ∈ zTb := List.forall_mem_cons.mpr ⟨zmem 259 rfl rfl, fun _ h => absurd h List.not_mem_nil⟩
def zOT_2 : List (Nat) := [3]
set_option maxRecDepth 100000 in
theorem zOT_2_ok : ∀ q ∈ zOT_2, Cond.methodLink (zon 2) q objectInit ∈ zTb := List.forall_mem_cons.mpr ⟨zmem 106 rfl rfl, fun _ h => absurd h List.not_mem_nil⟩
def zOT_3 : List (Nat) := [3]
set_option maxRecDepth 100000 in
theorem zOT_3_ok : ∀ q ∈ zOT_3, Cond.methodLink (zon 3) q objectInit ∈ zTb := List.forall_mem_cons.mpr ⟨zmem 190 rfl rfl, fun _ h => absurd h List.not_mem_nil⟩
def zOT_4 : List (Nat) := [3]
set_option maxRecDepth 100000 in
theorem zOT_4_ok : ∀ q ∈ zOT_4, Cond.methodLink (zon 4) q objectInit ∈ zTb := List.forall_mem_cons.mpr ⟨zmem 302 rfl rfl, fun _ h => absurd h List.not_mem_nil⟩
def zOT_5 : List (Nat) := [1]
set_option maxRecDepth 100000 in
theorem zOT_5_ok : ∀ q ∈ zOT_5, Cond.methodLink (zon 5) q objectInit ∈ zTb := List.forall_mem_cons.mpr ⟨zmem 196 rfl rfl, fun _ h => absurd h List.not_mem_nil⟩
def zOT_6 : List (Nat) := [3]
set_option maxRecDepth 100000 in
theorem zOT_6_ok : ∀ q ∈ zOT_6, Cond.methodLink (zon 6) q objectInit ∈ zTb := List.forall_mem_cons.mpr ⟨zmem 100 rfl rfl, fun _ h => absurd h List.not_mem_nil⟩
def zOT_7 : List (Nat) := [3]
set_option maxRecDepth 100000 in
theorem zOT_7_ok : ∀ q ∈ zOT_7, Cond.methodLink (zon 7) q objectInit ∈ zTb := List.forall_mem_cons.mpr ⟨zmem 369 rfl rfl, fun _ h => absurd h List.not_mem_nil⟩
def zOT_8 : List (Nat) := [3]
set_option maxRecDepth 100000 in
theorem zOT_8_ok : ∀ q ∈ zOT_8, Cond.methodLink (zon 8) q objectInit ∈ zTb := List.forall_mem_cons.mpr ⟨zmem 346 rfl rfl, fun _ h => absurd h List.not_mem_nil⟩
def zOT_9 : List (Nat) := [3]
set_option maxRecDepth 100000 in
theorem zOT_9_ok : ∀ q ∈ zOT_9, Cond.methodLink (zon 9) q objectInit ∈ zTb := List.forall_mem_cons.mpr ⟨zmem 327 rfl rfl, fun _ h => absurd h List.not_mem_nil⟩
def zOT_10 : List (Nat) := [3]
set_option maxRecDepth 100000 in
theorem zOT_10_ok : ∀ q ∈ zOT_10, Cond.methodLink (zon 10) q objectInit ∈ zTb := List.forall_mem_cons.mpr ⟨zmem 92 rfl rfl, fun _ h => absurd h List.not_mem_nil⟩
def zOT_11 : List (Nat) := [1]
set_option maxRecDepth 100000 in
theorem zOT_11_ok : ∀ q ∈ zOT_11, Cond.methodLink (zon 11) q objectInit ∈ zTb := List.forall_mem_cons.mpr ⟨zmem 884 rfl rfl, fun _ h => absurd h List.not_mem_nil⟩
def zOT_12 : List (Nat) := []
set_option maxRecDepth 100000 in
theorem zOT_12_ok : ∀ q ∈ zOT_12, Cond.methodLink (zon 12) q objectInit ∈ zTb := fun _ h => absurd h List.not_mem_nil
def zOT_13 : List (Nat) := []
set_option maxRecDepth 100000 in
theorem zOT_13_ok : ∀ q ∈ zOT_13, Cond.methodLink (zon 13) q objectInit ∈ zTb := fun _ h => absurd h List.not_mem_nil
def zOT : Nat → List (Nat) := fun o => match o with
  | 0 => zOT_0
  | 1 => zOT_1
  | 2 => zOT_2
  | 3 => zOT_3
  | 4 => zOT_4
  | 5 => zOT_5
  | 6 => zOT_6
  | 7 => zOT_7
  | 8 => zOT_8
  | 9 => zOT_9
  | 10 => zOT_10
  | 11 => zOT_11
  | 12 => zOT_12
  | 13 => zOT_13
  | _ => []
theorem zOT_ok : ∀ o, ∀ q ∈ zOT o, Cond.methodLink (zon o) q objectInit ∈ zTb := fun o => match o with
  | 0 => zOT_0_ok
  | 1 => zOT_1_ok
  | 2 => zOT_2_ok
  | 3 => zOT_3_ok
  | 4 => zOT_4_ok
  | 5 => zOT_5_ok
  | 6 => zOT_6_ok
  | 7 => zOT_7_ok
  | 8 => zOT_8_ok
  | 9 => zOT_9_ok
  | 10 => zOT_10_ok
  | 11 => zOT_11_ok
  | 12 => zOT_12_ok
  | 13 => zOT_13_ok
  | _ + 14 => fun _ h => absurd h List.not_mem_nil
def zYT_0 : List (Nat) := [24]
set_option maxRecDepth 100000 in
theorem zYT_0_ok : ∀ q ∈ zYT_0, Cond.methodLink (zon 0) q arraycopyName ∈ zTb := List.forall_mem_cons.mpr ⟨zmem 680 rfl rfl, fun _ h => absurd h List.not_mem_nil⟩
def zYT_1 : List (Nat) := []
set_option maxRecDepth 100000 in
theorem zYT_1_ok : ∀ q ∈ zYT_1, Cond.methodLink (zon 1) q arraycopyName ∈ zTb := fun _ h => absurd h List.not_mem_nil
def zYT_2 : List (Nat) := [69]
set_option maxRecDepth 100000 in
theorem zYT_2_ok : ∀ q ∈ zYT_2, Cond.methodLink (zon 2) q arraycopyName ∈ zTb := List.forall_mem_cons.mpr ⟨zmem 675 rfl rfl, fun _ h => absurd h List.not_mem_nil⟩
def zYT_3 : List (Nat) := []
set_option maxRecDepth 100000 in
theorem zYT_3_ok : ∀ q ∈ zYT_3, Cond.methodLink (zon 3) q arraycopyName ∈ zTb := fun _ h => absurd h List.not_mem_nil
def zYT_4 : List (Nat) := []
set_option maxRecDepth 100000 in
theorem zYT_4_ok : ∀ q ∈ zYT_4, Cond.methodLink (zon 4) q arraycopyName ∈ zTb := fun _ h => absurd h List.not_mem_nil
def zYT_5 : List (Nat) := [26]
set_option maxRecDepth 100000 in
theorem zYT_5_ok : ∀ q ∈ zYT_5, Cond.methodLink (zon 5) q arraycopyName ∈ zTb := List.forall_mem_cons.mpr ⟨zmem 616 rfl rfl, fun _ h => absurd h List.not_mem_nil⟩
def zYT_6 : List (Nat) := []
set_option maxRecDepth 100000 in
theorem zYT_6_ok : ∀ q ∈ zYT_6, Cond.methodLink (zon 6) q arraycopyName ∈ zTb := fun _ h => absurd h List.not_mem_nil
def zYT_7 : List (Nat) := []
set_option maxRecDepth 100000 in
theorem zYT_7_ok : ∀ q ∈ zYT_7, Cond.methodLink (zon 7) q arraycopyName ∈ zTb := fun _ h => absurd h List.not_mem_nil
def zYT_8 : List (Nat) := []
set_option maxRecDepth 100000 in
theorem zYT_8_ok : ∀ q ∈ zYT_8, Cond.methodLink (zon 8) q arraycopyName ∈ zTb := fun _ h => absurd h List.not_mem_nil
def zYT_9 : List (Nat) := []
set_option maxRecDepth 100000 in
theorem zYT_9_ok : ∀ q ∈ zYT_9, Cond.methodLink (zon 9) q arraycopyName ∈ zTb := fun _ h => absurd h List.not_mem_nil
def zYT_10 : List (Nat) := [267]
set_option maxRecDepth 100000 in
theorem zYT_10_ok : ∀ q ∈ zYT_10, Cond.methodLink (zon 10) q arraycopyName ∈ zTb := List.forall_mem_cons.mpr ⟨zmem 835 rfl rfl, fun _ h => absurd h List.not_mem_nil⟩
def zYT_11 : List (Nat) := []
set_option maxRecDepth 100000 in
theorem zYT_11_ok : ∀ q ∈ zYT_11, Cond.methodLink (zon 11) q arraycopyName ∈ zTb := fun _ h => absurd h List.not_mem_nil
def zYT_12 : List (Nat) := []
set_option maxRecDepth 100000 in
theorem zYT_12_ok : ∀ q ∈ zYT_12, Cond.methodLink (zon 12) q arraycopyName ∈ zTb := fun _ h => absurd h List.not_mem_nil
def zYT_13 : List (Nat) := []
set_option maxRecDepth 100000 in
theorem zYT_13_ok : ∀ q ∈ zYT_13, Cond.methodLink (zon 13) q arraycopyName ∈ zTb := fun _ h => absurd h List.not_mem_nil
def zYT : Nat → List (Nat) := fun o => match o with
  | 0 => zYT_0
  | 1 => zYT_1
  | 2 => zYT_2
  | 3 => zYT_3
  | 4 => zYT_4
  | 5 => zYT_5
  | 6 => zYT_6
  | 7 => zYT_7
  | 8 => zYT_8
  | 9 => zYT_9
  | 10 => zYT_10
  | 11 => zYT_11
  | 12 => zYT_12
  | 13 => zYT_13
  | _ => []
theorem zYT_ok : ∀ o, ∀ q ∈ zYT o, Cond.methodLink (zon o) q arraycopyName ∈ zTb := fun o => match o with
  | 0 => zYT_0_ok
  | 1 => zYT_1_ok
  | 2 => zYT_2_ok
  | 3 => zYT_3_ok
  | 4 => zYT_4_ok
  | 5 => zYT_5_ok
  | 6 => zYT_6_ok
  | 7 => zYT_7_ok
  | 8 => zYT_8_ok
  | 9 => zYT_9_ok
  | 10 => zYT_10_ok
  | 11 => zYT_11_ok
  | 12 => zYT_12_ok
  | 13 => zYT_13_ok
  | _ + 14 => fun _ h => absurd h List.not_mem_nil
def zKT_0 : List (Nat × Int) := []
set_option maxRecDepth 100000 in
theorem zKT_0_ok : ∀ q ∈ zKT_0, Cond.constant (zon 0) q.1 (Int32.ofInt q.2) ∈ zTb := fun _ h => absurd h List.not_mem_nil
def zKT_1 : List (Nat × Int) := []
set_option maxRecDepth 100000 in
theorem zKT_1_ok : ∀ q ∈ zKT_1, Cond.constant (zon 1) q.1 (Int32.ofInt q.2) ∈ zTb := fun _ h => absurd h List.not_mem_nil
def zKT_2 : List (Nat × Int) := []
set_option maxRecDepth 100000 in
theorem zKT_2_ok : ∀ q ∈ zKT_2, Cond.constant (zon 2) q.1 (Int32.ofInt q.2) ∈ zTb := fun _ h => absurd h List.not_mem_nil
def zKT_3 : List (Nat × Int) := []
set_option maxRecDepth 100000 in
theorem zKT_3_ok : ∀ q ∈ zKT_3, Cond.constant (zon 3) q.1 (Int32.ofInt q.2) ∈ zTb := fun _ h => absurd h List.not_mem_nil
def zKT_4 : List (Nat × Int) := []
set_option maxRecDepth 100000 in
theorem zKT_4_ok : ∀ q ∈ zKT_4, Cond.constant (zon 4) q.1 (Int32.ofInt q.2) ∈ zTb := fun _ h => absurd h List.not_mem_nil
def zKT_5 : List (Nat × Int) := []
set_option maxRecDepth 100000 in
theorem zKT_5_ok : ∀ q ∈ zKT_5, Cond.constant (zon 5) q.1 (Int32.ofInt q.2) ∈ zTb := fun _ h => absurd h List.not_mem_nil
def zKT_6 : List (Nat × Int) := [(51, 1103515245)]
set_option maxRecDepth 100000 in
theorem zKT_6_ok : ∀ q ∈ zKT_6, Cond.constant (zon 6) q.1 (Int32.ofInt q.2) ∈ zTb := List.forall_mem_cons.mpr ⟨zmem 662 rfl rfl, fun _ h => absurd h List.not_mem_nil⟩
def zKT_7 : List (Nat × Int) := []
set_option maxRecDepth 100000 in
theorem zKT_7_ok : ∀ q ∈ zKT_7, Cond.constant (zon 7) q.1 (Int32.ofInt q.2) ∈ zTb := fun _ h => absurd h List.not_mem_nil
def zKT_8 : List (Nat × Int) := []
set_option maxRecDepth 100000 in
theorem zKT_8_ok : ∀ q ∈ zKT_8, Cond.constant (zon 8) q.1 (Int32.ofInt q.2) ∈ zTb := fun _ h => absurd h List.not_mem_nil
def zKT_9 : List (Nat × Int) := [(25, 1000000)]
set_option maxRecDepth 100000 in
theorem zKT_9_ok : ∀ q ∈ zKT_9, Cond.constant (zon 9) q.1 (Int32.ofInt q.2) ∈ zTb := List.forall_mem_cons.mpr ⟨zmem 726 rfl rfl, fun _ h => absurd h List.not_mem_nil⟩
def zKT_10 : List (Nat × Int) := [(96, (-1000000001)), (107, (-1000000003)), (143, (-1000000004)), (170, (-1000000005)), (217, (-1000000002)), (233, 1000000), (291, (-1000000000))]
set_option maxRecDepth 100000 in
theorem zKT_10_ok : ∀ q ∈ zKT_10, Cond.constant (zon 10) q.1 (Int32.ofInt q.2) ∈ zTb := List.forall_mem_cons.mpr ⟨zmem 421 rfl rfl, List.forall_mem_cons.mpr ⟨zmem 435 rfl rfl, List.forall_mem_cons.mpr ⟨zmem 524 rfl rfl, List.forall_mem_cons.mpr ⟨zmem 553 rfl rfl, List.forall_mem_cons.mpr ⟨zmem 689 rfl rfl, List.forall_mem_cons.mpr ⟨zmem 754 rfl rfl, List.forall_mem_cons.mpr ⟨zmem 426 rfl rfl, fun _ h => absurd h List.not_mem_nil⟩⟩⟩⟩⟩⟩⟩
def zKT_11 : List (Nat × Int) := [(60, (-1000000000)), (248, 1103515245), (266, 100000)]
set_option maxRecDepth 100000 in
theorem zKT_11_ok : ∀ q ∈ zKT_11, Cond.constant (zon 11) q.1 (Int32.ofInt q.2) ∈ zTb := List.forall_mem_cons.mpr ⟨zmem 977 rfl rfl, List.forall_mem_cons.mpr ⟨zmem 1210 rfl rfl, List.forall_mem_cons.mpr ⟨zmem 1246 rfl rfl, fun _ h => absurd h List.not_mem_nil⟩⟩⟩
def zKT_12 : List (Nat × Int) := []
set_option maxRecDepth 100000 in
theorem zKT_12_ok : ∀ q ∈ zKT_12, Cond.constant (zon 12) q.1 (Int32.ofInt q.2) ∈ zTb := fun _ h => absurd h List.not_mem_nil
def zKT_13 : List (Nat × Int) := []
set_option maxRecDepth 100000 in
theorem zKT_13_ok : ∀ q ∈ zKT_13, Cond.constant (zon 13) q.1 (Int32.ofInt q.2) ∈ zTb := fun _ h => absurd h List.not_mem_nil
def zKT : Nat → List (Nat × Int) := fun o => match o with
  | 0 => zKT_0
  | 1 => zKT_1
  | 2 => zKT_2
  | 3 => zKT_3
  | 4 => zKT_4
  | 5 => zKT_5
  | 6 => zKT_6
  | 7 => zKT_7
  | 8 => zKT_8
  | 9 => zKT_9
  | 10 => zKT_10
  | 11 => zKT_11
  | 12 => zKT_12
  | 13 => zKT_13
  | _ => []
theorem zKT_ok : ∀ o, ∀ q ∈ zKT o, Cond.constant (zon o) q.1 (Int32.ofInt q.2) ∈ zTb := fun o => match o with
  | 0 => zKT_0_ok
  | 1 => zKT_1_ok
  | 2 => zKT_2_ok
  | 3 => zKT_3_ok
  | 4 => zKT_4_ok
  | 5 => zKT_5_ok
  | 6 => zKT_6_ok
  | 7 => zKT_7_ok
  | 8 => zKT_8_ok
  | 9 => zKT_9_ok
  | 10 => zKT_10_ok
  | 11 => zKT_11_ok
  | 12 => zKT_12_ok
  | 13 => zKT_13_ok
  | _ + 14 => fun _ h => absurd h List.not_mem_nil
def zLT_0 : List (Nat × Int) := []
set_option maxRecDepth 100000 in
theorem zLT_0_ok : ∀ q ∈ zLT_0, Cond.constantLong (zon 0) q.1 (Int64.ofInt q.2) ∈ zTb := fun _ h => absurd h List.not_mem_nil
def zLT_1 : List (Nat × Int) := []
set_option maxRecDepth 100000 in
theorem zLT_1_ok : ∀ q ∈ zLT_1, Cond.constantLong (zon 1) q.1 (Int64.ofInt q.2) ∈ zTb := fun _ h => absurd h List.not_mem_nil
def zLT_2 : List (Nat × Int) := []
set_option maxRecDepth 100000 in
theorem zLT_2_ok : ∀ q ∈ zLT_2, Cond.constantLong (zon 2) q.1 (Int64.ofInt q.2) ∈ zTb := fun _ h => absurd h List.not_mem_nil
def zLT_3 : List (Nat × Int) := []
set_option maxRecDepth 100000 in
theorem zLT_3_ok : ∀ q ∈ zLT_3, Cond.constantLong (zon 3) q.1 (Int64.ofInt q.2) ∈ zTb := fun _ h => absurd h List.not_mem_nil
def zLT_4 : List (Nat × Int) := []
set_option maxRecDepth 100000 in
theorem zLT_4_ok : ∀ q ∈ zLT_4, Cond.constantLong (zon 4) q.1 (Int64.ofInt q.2) ∈ zTb := fun _ h => absurd h List.not_mem_nil
def zLT_5 : List (Nat × Int) := []
set_option maxRecDepth 100000 in
theorem zLT_5_ok : ∀ q ∈ zLT_5, Cond.constantLong (zon 5) q.1 (Int64.ofInt q.2) ∈ zTb := fun _ h => absurd h List.not_mem_nil
def zLT_6 : List (Nat × Int) := []
set_option maxRecDepth 100000 in
theorem zLT_6_ok : ∀ q ∈ zLT_6, Cond.constantLong (zon 6) q.1 (Int64.ofInt q.2) ∈ zTb := fun _ h => absurd h List.not_mem_nil
def zLT_7 : List (Nat × Int) := []
set_option maxRecDepth 100000 in
theorem zLT_7_ok : ∀ q ∈ zLT_7, Cond.constantLong (zon 7) q.1 (Int64.ofInt q.2) ∈ zTb := fun _ h => absurd h List.not_mem_nil
def zLT_8 : List (Nat × Int) := []
set_option maxRecDepth 100000 in
theorem zLT_8_ok : ∀ q ∈ zLT_8, Cond.constantLong (zon 8) q.1 (Int64.ofInt q.2) ∈ zTb := fun _ h => absurd h List.not_mem_nil
def zLT_9 : List (Nat × Int) := []
set_option maxRecDepth 100000 in
theorem zLT_9_ok : ∀ q ∈ zLT_9, Cond.constantLong (zon 9) q.1 (Int64.ofInt q.2) ∈ zTb := fun _ h => absurd h List.not_mem_nil
def zLT_10 : List (Nat × Int) := []
set_option maxRecDepth 100000 in
theorem zLT_10_ok : ∀ q ∈ zLT_10, Cond.constantLong (zon 10) q.1 (Int64.ofInt q.2) ∈ zTb := fun _ h => absurd h List.not_mem_nil
def zLT_11 : List (Nat × Int) := [(65, 63), (129, 48), (131, 57), (137, 8), (142, 255), (206, 9), (214, 2), (219, 20), (221, 99), (223, 5), (225, 69), (233, 4), (235, 6), (240, 60), (249, 40), (267, 14), (283, 3), (285, 200), (290, 30)]
set_option maxRecDepth 100000 in
theorem zLT_11_ok : ∀ q ∈ zLT_11, Cond.constantLong (zon 11) q.1 (Int64.ofInt q.2) ∈ zTb := List.forall_mem_cons.mpr ⟨zmem 1062 rfl rfl, List.forall_mem_cons.mpr ⟨zmem 1035 rfl rfl, List.forall_mem_cons.mpr ⟨zmem 1036 rfl rfl, List.forall_mem_cons.mpr ⟨zmem 969 rfl rfl, List.forall_mem_cons.mpr ⟨zmem 978 rfl rfl, List.forall_mem_cons.mpr ⟨zmem 1063 rfl rfl, List.forall_mem_cons.mpr ⟨zmem 1084 rfl rfl, List.forall_mem_cons.mpr ⟨zmem 1092 rfl rfl, List.forall_mem_cons.mpr ⟨zmem 1093 rfl rfl, List.forall_mem_cons.mpr ⟨zmem 1098 rfl rfl, List.forall_mem_cons.mpr ⟨zmem 1147 rfl rfl, List.forall_mem_cons.mpr ⟨zmem 1156 rfl rfl, List.forall_mem_cons.mpr ⟨zmem 1169 rfl rfl, List.forall_mem_cons.mpr ⟨zmem 1177 rfl rfl, List.forall_mem_cons.mpr ⟨zmem 1205 rfl rfl, List.forall_mem_cons.mpr ⟨zmem 1251 rfl rfl, List.forall_mem_cons.mpr ⟨zmem 1263 rfl rfl, List.forall_mem_cons.mpr ⟨zmem 1292 rfl rfl, List.forall_mem_cons.mpr ⟨zmem 1305 rfl rfl, fun _ h => absurd h List.not_mem_nil⟩⟩⟩⟩⟩⟩⟩⟩⟩⟩⟩⟩⟩⟩⟩⟩⟩⟩⟩
def zLT_12 : List (Nat × Int) := []
set_option maxRecDepth 100000 in
theorem zLT_12_ok : ∀ q ∈ zLT_12, Cond.constantLong (zon 12) q.1 (Int64.ofInt q.2) ∈ zTb := fun _ h => absurd h List.not_mem_nil
def zLT_13 : List (Nat × Int) := [(60, 4294967295)]
set_option maxRecDepth 100000 in
theorem zLT_13_ok : ∀ q ∈ zLT_13, Cond.constantLong (zon 13) q.1 (Int64.ofInt q.2) ∈ zTb := List.forall_mem_cons.mpr ⟨zmem 1385 rfl rfl, fun _ h => absurd h List.not_mem_nil⟩
def zLT : Nat → List (Nat × Int) := fun o => match o with
  | 0 => zLT_0
  | 1 => zLT_1
  | 2 => zLT_2
  | 3 => zLT_3
  | 4 => zLT_4
  | 5 => zLT_5
  | 6 => zLT_6
  | 7 => zLT_7
  | 8 => zLT_8
  | 9 => zLT_9
  | 10 => zLT_10
  | 11 => zLT_11
  | 12 => zLT_12
  | 13 => zLT_13
  | _ => []
theorem zLT_ok : ∀ o, ∀ q ∈ zLT o, Cond.constantLong (zon o) q.1 (Int64.ofInt q.2) ∈ zTb := fun o => match o with
  | 0 => zLT_0_ok
  | 1 => zLT_1_ok
  | 2 => zLT_2_ok
  | 3 => zLT_3_ok
  | 4 => zLT_4_ok
  | 5 => zLT_5_ok
  | 6 => zLT_6_ok
  | 7 => zLT_7_ok
  | 8 => zLT_8_ok
  | 9 => zLT_9_ok
  | 10 => zLT_10_ok
  | 11 => zLT_11_ok
  | 12 => zLT_12_ok
  | 13 => zLT_13_ok
  | _ + 14 => fun _ h => absurd h List.not_mem_nil
def zST_0 : List (Nat × Nat) := [(21, 0)]
set_option maxRecDepth 100000 in
theorem zST_0_ok : ∀ q ∈ zST_0, q.2 < 3 ∧ (Cond.fieldLink (zon 0) q.1 (zrc q.2).1 (zrc q.2).2.1 (zrc q.2).2.2 ∈ zTb ∨ Cond.fieldLinkNest (zon 0) q.1 (zrc q.2).1 (zrc q.2).2.1 (zrc q.2).2.2 RX10 ∈ zNest) := List.forall_mem_cons.mpr ⟨⟨by decide, Or.inr (List.mem_of_getElem? (i := 6) rfl)⟩, fun _ h => absurd h List.not_mem_nil⟩
def zST_1 : List (Nat × Nat) := []
set_option maxRecDepth 100000 in
theorem zST_1_ok : ∀ q ∈ zST_1, q.2 < 3 ∧ (Cond.fieldLink (zon 1) q.1 (zrc q.2).1 (zrc q.2).2.1 (zrc q.2).2.2 ∈ zTb ∨ Cond.fieldLinkNest (zon 1) q.1 (zrc q.2).1 (zrc q.2).2.1 (zrc q.2).2.2 RX10 ∈ zNest) := fun _ h => absurd h List.not_mem_nil
def zST_2 : List (Nat × Nat) := []
set_option maxRecDepth 100000 in
theorem zST_2_ok : ∀ q ∈ zST_2, q.2 < 3 ∧ (Cond.fieldLink (zon 2) q.1 (zrc q.2).1 (zrc q.2).2.1 (zrc q.2).2.2 ∈ zTb ∨ Cond.fieldLinkNest (zon 2) q.1 (zrc q.2).1 (zrc q.2).2.1 (zrc q.2).2.2 RX10 ∈ zNest) := fun _ h => absurd h List.not_mem_nil
def zST_3 : List (Nat × Nat) := []
set_option maxRecDepth 100000 in
theorem zST_3_ok : ∀ q ∈ zST_3, q.2 < 3 ∧ (Cond.fieldLink (zon 3) q.1 (zrc q.2).1 (zrc q.2).2.1 (zrc q.2).2.2 ∈ zTb ∨ Cond.fieldLinkNest (zon 3) q.1 (zrc q.2).1 (zrc q.2).2.1 (zrc q.2).2.2 RX10 ∈ zNest) := fun _ h => absurd h List.not_mem_nil
def zST_4 : List (Nat × Nat) := [(76, 2)]
set_option maxRecDepth 100000 in
theorem zST_4_ok : ∀ q ∈ zST_4, q.2 < 3 ∧ (Cond.fieldLink (zon 4) q.1 (zrc q.2).1 (zrc q.2).2.1 (zrc q.2).2.2 ∈ zTb ∨ Cond.fieldLinkNest (zon 4) q.1 (zrc q.2).1 (zrc q.2).2.1 (zrc q.2).2.2 RX10 ∈ zNest) := List.forall_mem_cons.mpr ⟨⟨by decide, Or.inl (zmem 594 rfl rfl)⟩, fun _ h => absurd h List.not_mem_nil⟩
def zST_5 : List (Nat × Nat) := []
set_option maxRecDepth 100000 in
theorem zST_5_ok : ∀ q ∈ zST_5, q.2 < 3 ∧ (Cond.fieldLink (zon 5) q.1 (zrc q.2).1 (zrc q.2).2.1 (zrc q.2).2.2 ∈ zTb ∨ Cond.fieldLinkNest (zon 5) q.1 (zrc q.2).1 (zrc q.2).2.1 (zrc q.2).2.2 RX10 ∈ zNest) := fun _ h => absurd h List.not_mem_nil
def zST_6 : List (Nat × Nat) := []
set_option maxRecDepth 100000 in
theorem zST_6_ok : ∀ q ∈ zST_6, q.2 < 3 ∧ (Cond.fieldLink (zon 6) q.1 (zrc q.2).1 (zrc q.2).2.1 (zrc q.2).2.2 ∈ zTb ∨ Cond.fieldLinkNest (zon 6) q.1 (zrc q.2).1 (zrc q.2).2.1 (zrc q.2).2.2 RX10 ∈ zNest) := fun _ h => absurd h List.not_mem_nil
def zST_7 : List (Nat × Nat) := []
set_option maxRecDepth 100000 in
theorem zST_7_ok : ∀ q ∈ zST_7, q.2 < 3 ∧ (Cond.fieldLink (zon 7) q.1 (zrc q.2).1 (zrc q.2).2.1 (zrc q.2).2.2 ∈ zTb ∨ Cond.fieldLinkNest (zon 7) q.1 (zrc q.2).1 (zrc q.2).2.1 (zrc q.2).2.2 RX10 ∈ zNest) := fun _ h => absurd h List.not_mem_nil
def zST_8 : List (Nat × Nat) := [(44, 1), (47, 0)]
set_option maxRecDepth 100000 in
theorem zST_8_ok : ∀ q ∈ zST_8, q.2 < 3 ∧ (Cond.fieldLink (zon 8) q.1 (zrc q.2).1 (zrc q.2).2.1 (zrc q.2).2.2 ∈ zTb ∨ Cond.fieldLinkNest (zon 8) q.1 (zrc q.2).1 (zrc q.2).2.1 (zrc q.2).2.2 RX10 ∈ zNest) := List.forall_mem_cons.mpr ⟨⟨by decide, Or.inl (zmem 798 rfl rfl)⟩, List.forall_mem_cons.mpr ⟨⟨by decide, Or.inr (List.mem_of_getElem? (i := 7) rfl)⟩, fun _ h => absurd h List.not_mem_nil⟩⟩
def zST_9 : List (Nat × Nat) := []
set_option maxRecDepth 100000 in
theorem zST_9_ok : ∀ q ∈ zST_9, q.2 < 3 ∧ (Cond.fieldLink (zon 9) q.1 (zrc q.2).1 (zrc q.2).2.1 (zrc q.2).2.2 ∈ zTb ∨ Cond.fieldLinkNest (zon 9) q.1 (zrc q.2).1 (zrc q.2).2.1 (zrc q.2).2.2 RX10 ∈ zNest) := fun _ h => absurd h List.not_mem_nil
def zST_10 : List (Nat × Nat) := []
set_option maxRecDepth 100000 in
theorem zST_10_ok : ∀ q ∈ zST_10, q.2 < 3 ∧ (Cond.fieldLink (zon 10) q.1 (zrc q.2).1 (zrc q.2).2.1 (zrc q.2).2.2 ∈ zTb ∨ Cond.fieldLinkNest (zon 10) q.1 (zrc q.2).1 (zrc q.2).2.1 (zrc q.2).2.2 RX10 ∈ zNest) := fun _ h => absurd h List.not_mem_nil
def zST_11 : List (Nat × Nat) := []
set_option maxRecDepth 100000 in
theorem zST_11_ok : ∀ q ∈ zST_11, q.2 < 3 ∧ (Cond.fieldLink (zon 11) q.1 (zrc q.2).1 (zrc q.2).2.1 (zrc q.2).2.2 ∈ zTb ∨ Cond.fieldLinkNest (zon 11) q.1 (zrc q.2).1 (zrc q.2).2.1 (zrc q.2).2.2 RX10 ∈ zNest) := fun _ h => absurd h List.not_mem_nil
def zST_12 : List (Nat × Nat) := []
set_option maxRecDepth 100000 in
theorem zST_12_ok : ∀ q ∈ zST_12, q.2 < 3 ∧ (Cond.fieldLink (zon 12) q.1 (zrc q.2).1 (zrc q.2).2.1 (zrc q.2).2.2 ∈ zTb ∨ Cond.fieldLinkNest (zon 12) q.1 (zrc q.2).1 (zrc q.2).2.1 (zrc q.2).2.2 RX10 ∈ zNest) := fun _ h => absurd h List.not_mem_nil
def zST_13 : List (Nat × Nat) := []
set_option maxRecDepth 100000 in
theorem zST_13_ok : ∀ q ∈ zST_13, q.2 < 3 ∧ (Cond.fieldLink (zon 13) q.1 (zrc q.2).1 (zrc q.2).2.1 (zrc q.2).2.2 ∈ zTb ∨ Cond.fieldLinkNest (zon 13) q.1 (zrc q.2).1 (zrc q.2).2.1 (zrc q.2).2.2 RX10 ∈ zNest) := fun _ h => absurd h List.not_mem_nil
def zST : Nat → List (Nat × Nat) := fun o => match o with
  | 0 => zST_0
  | 1 => zST_1
  | 2 => zST_2
  | 3 => zST_3
  | 4 => zST_4
  | 5 => zST_5
  | 6 => zST_6
  | 7 => zST_7
  | 8 => zST_8
  | 9 => zST_9
  | 10 => zST_10
  | 11 => zST_11
  | 12 => zST_12
  | 13 => zST_13
  | _ => []
theorem zST_ok : ∀ o, ∀ q ∈ zST o, q.2 < 3 ∧ (Cond.fieldLink (zon o) q.1 (zrc q.2).1 (zrc q.2).2.1 (zrc q.2).2.2 ∈ zTb ∨ Cond.fieldLinkNest (zon o) q.1 (zrc q.2).1 (zrc q.2).2.1 (zrc q.2).2.2 RX10 ∈ zNest) := fun o => match o with
  | 0 => zST_0_ok
  | 1 => zST_1_ok
  | 2 => zST_2_ok
  | 3 => zST_3_ok
  | 4 => zST_4_ok
  | 5 => zST_5_ok
  | 6 => zST_6_ok
  | 7 => zST_7_ok
  | 8 => zST_8_ok
  | 9 => zST_9_ok
  | 10 => zST_10_ok
  | 11 => zST_11_ok
  | 12 => zST_12_ok
  | 13 => zST_13_ok
  | _ + 14 => fun _ h => absurd h List.not_mem_nil
def zNT_0 : List (Nat × Nat) := []
set_option maxRecDepth 100000 in
theorem zNT_0_ok : ∀ q ∈ zNT_0, ∃ (C : String) (T : u_T) (N : Nat), zcl[q.2]? = some (C, T, N) ∧ (∀ w ∈ u_ws C T N, w ∈ zTb) ∧ (∀ k, k < N → parseFieldDescriptor (T k).2.2.1 = some (zty q.2 k)) ∧ Cond.classLink (zon 0) q.1 C ∈ zTb ∧ Cond.instantiable C N ∈ zTb ∧ Cond.initialized C ∈ zTb := fun _ h => absurd h List.not_mem_nil
def zNT_1 : List (Nat × Nat) := []
set_option maxRecDepth 100000 in
theorem zNT_1_ok : ∀ q ∈ zNT_1, ∃ (C : String) (T : u_T) (N : Nat), zcl[q.2]? = some (C, T, N) ∧ (∀ w ∈ u_ws C T N, w ∈ zTb) ∧ (∀ k, k < N → parseFieldDescriptor (T k).2.2.1 = some (zty q.2 k)) ∧ Cond.classLink (zon 1) q.1 C ∈ zTb ∧ Cond.instantiable C N ∈ zTb ∧ Cond.initialized C ∈ zTb := fun _ h => absurd h List.not_mem_nil
def zNT_2 : List (Nat × Nat) := []
set_option maxRecDepth 100000 in
theorem zNT_2_ok : ∀ q ∈ zNT_2, ∃ (C : String) (T : u_T) (N : Nat), zcl[q.2]? = some (C, T, N) ∧ (∀ w ∈ u_ws C T N, w ∈ zTb) ∧ (∀ k, k < N → parseFieldDescriptor (T k).2.2.1 = some (zty q.2 k)) ∧ Cond.classLink (zon 2) q.1 C ∈ zTb ∧ Cond.instantiable C N ∈ zTb ∧ Cond.initialized C ∈ zTb := fun _ h => absurd h List.not_mem_nil
def zNT_3 : List (Nat × Nat) := [(9, 5)]
set_option maxRecDepth 100000 in
theorem zNT_3_ok : ∀ q ∈ zNT_3, ∃ (C : String) (T : u_T) (N : Nat), zcl[q.2]? = some (C, T, N) ∧ (∀ w ∈ u_ws C T N, w ∈ zTb) ∧ (∀ k, k < N → parseFieldDescriptor (T k).2.2.1 = some (zty q.2 k)) ∧ Cond.classLink (zon 3) q.1 C ∈ zTb ∧ Cond.instantiable C N ∈ zTb ∧ Cond.initialized C ∈ zTb := List.forall_mem_cons.mpr ⟨⟨RX5, TX5, 2, rfl, inX5, tyX5_ok, zmem 191 rfl rfl, zmem 192 rfl rfl, zmem 77 rfl rfl⟩, fun _ h => absurd h List.not_mem_nil⟩
def zNT_4 : List (Nat × Nat) := [(9, 5)]
set_option maxRecDepth 100000 in
theorem zNT_4_ok : ∀ q ∈ zNT_4, ∃ (C : String) (T : u_T) (N : Nat), zcl[q.2]? = some (C, T, N) ∧ (∀ w ∈ u_ws C T N, w ∈ zTb) ∧ (∀ k, k < N → parseFieldDescriptor (T k).2.2.1 = some (zty q.2 k)) ∧ Cond.classLink (zon 4) q.1 C ∈ zTb ∧ Cond.instantiable C N ∈ zTb ∧ Cond.initialized C ∈ zTb := List.forall_mem_cons.mpr ⟨⟨RX5, TX5, 2, rfl, inX5, tyX5_ok, zmem 303 rfl rfl, zmem 192 rfl rfl, zmem 77 rfl rfl⟩, fun _ h => absurd h List.not_mem_nil⟩
def zNT_5 : List (Nat × Nat) := []
set_option maxRecDepth 100000 in
theorem zNT_5_ok : ∀ q ∈ zNT_5, ∃ (C : String) (T : u_T) (N : Nat), zcl[q.2]? = some (C, T, N) ∧ (∀ w ∈ u_ws C T N, w ∈ zTb) ∧ (∀ k, k < N → parseFieldDescriptor (T k).2.2.1 = some (zty q.2 k)) ∧ Cond.classLink (zon 5) q.1 C ∈ zTb ∧ Cond.instantiable C N ∈ zTb ∧ Cond.initialized C ∈ zTb := fun _ h => absurd h List.not_mem_nil
def zNT_6 : List (Nat × Nat) := [(9, 2), (18, 0), (25, 3), (35, 5)]
set_option maxRecDepth 100000 in
theorem zNT_6_ok : ∀ q ∈ zNT_6, ∃ (C : String) (T : u_T) (N : Nat), zcl[q.2]? = some (C, T, N) ∧ (∀ w ∈ u_ws C T N, w ∈ zTb) ∧ (∀ k, k < N → parseFieldDescriptor (T k).2.2.1 = some (zty q.2 k)) ∧ Cond.classLink (zon 6) q.1 C ∈ zTb ∧ Cond.instantiable C N ∈ zTb ∧ Cond.initialized C ∈ zTb := List.forall_mem_cons.mpr ⟨⟨RX2, TX2, 10, rfl, inX2, tyX2_ok, zmem 101 rfl rfl, zmem 102 rfl rfl, zmem 74 rfl rfl⟩, List.forall_mem_cons.mpr ⟨⟨RX0, TX0, 4, rfl, inX0, tyX0_ok, zmem 156 rfl rfl, zmem 157 rfl rfl, zmem 75 rfl rfl⟩, List.forall_mem_cons.mpr ⟨⟨RX3, TX3, 2, rfl, inX3, tyX3_ok, zmem 185 rfl rfl, zmem 186 rfl rfl, zmem 76 rfl rfl⟩, List.forall_mem_cons.mpr ⟨⟨RX5, TX5, 2, rfl, inX5, tyX5_ok, zmem 223 rfl rfl, zmem 192 rfl rfl, zmem 77 rfl rfl⟩, fun _ h => absurd h List.not_mem_nil⟩⟩⟩⟩
def zNT_7 : List (Nat × Nat) := []
set_option maxRecDepth 100000 in
theorem zNT_7_ok : ∀ q ∈ zNT_7, ∃ (C : String) (T : u_T) (N : Nat), zcl[q.2]? = some (C, T, N) ∧ (∀ w ∈ u_ws C T N, w ∈ zTb) ∧ (∀ k, k < N → parseFieldDescriptor (T k).2.2.1 = some (zty q.2 k)) ∧ Cond.classLink (zon 7) q.1 C ∈ zTb ∧ Cond.instantiable C N ∈ zTb ∧ Cond.initialized C ∈ zTb := fun _ h => absurd h List.not_mem_nil
def zNT_8 : List (Nat × Nat) := [(9, 5)]
set_option maxRecDepth 100000 in
theorem zNT_8_ok : ∀ q ∈ zNT_8, ∃ (C : String) (T : u_T) (N : Nat), zcl[q.2]? = some (C, T, N) ∧ (∀ w ∈ u_ws C T N, w ∈ zTb) ∧ (∀ k, k < N → parseFieldDescriptor (T k).2.2.1 = some (zty q.2 k)) ∧ Cond.classLink (zon 8) q.1 C ∈ zTb ∧ Cond.instantiable C N ∈ zTb ∧ Cond.initialized C ∈ zTb := List.forall_mem_cons.mpr ⟨⟨RX5, TX5, 2, rfl, inX5, tyX5_ok, zmem 347 rfl rfl, zmem 192 rfl rfl, zmem 77 rfl rfl⟩, fun _ h => absurd h List.not_mem_nil⟩
def zNT_9 : List (Nat × Nat) := []
set_option maxRecDepth 100000 in
theorem zNT_9_ok : ∀ q ∈ zNT_9, ∃ (C : String) (T : u_T) (N : Nat), zcl[q.2]? = some (C, T, N) ∧ (∀ w ∈ u_ws C T N, w ∈ zTb) ∧ (∀ k, k < N → parseFieldDescriptor (T k).2.2.1 = some (zty q.2 k)) ∧ Cond.classLink (zon 9) q.1 C ∈ zTb ∧ Cond.instantiable C N ∈ zTb ∧ Cond.initialized C ∈ zTb := fun _ h => absurd h List.not_mem_nil
def zNT_10 : List (Nat × Nat) := [(9, 6), (19, 1), (43, 2), (46, 0), (52, 4), (65, 9), (74, 8), (81, 7)]
set_option maxRecDepth 100000 in
theorem zNT_10_ok : ∀ q ∈ zNT_10, ∃ (C : String) (T : u_T) (N : Nat), zcl[q.2]? = some (C, T, N) ∧ (∀ w ∈ u_ws C T N, w ∈ zTb) ∧ (∀ k, k < N → parseFieldDescriptor (T k).2.2.1 = some (zty q.2 k)) ∧ Cond.classLink (zon 10) q.1 C ∈ zTb ∧ Cond.instantiable C N ∈ zTb ∧ Cond.initialized C ∈ zTb := List.forall_mem_cons.mpr ⟨⟨RX6, TX6, 7, rfl, inX6, tyX6_ok, zmem 95 rfl rfl, zmem 96 rfl rfl, zmem 73 rfl rfl⟩, List.forall_mem_cons.mpr ⟨⟨RX1, TX1, 10, rfl, inX1, tyX1_ok, zmem 254 rfl rfl, zmem 255 rfl rfl, zmem 79 rfl rfl⟩, List.forall_mem_cons.mpr ⟨⟨RX2, TX2, 10, rfl, inX2, tyX2_ok, zmem 293 rfl rfl, zmem 102 rfl rfl, zmem 74 rfl rfl⟩, List.forall_mem_cons.mpr ⟨⟨RX0, TX0, 4, rfl, inX0, tyX0_ok, zmem 295 rfl rfl, zmem 157 rfl rfl, zmem 75 rfl rfl⟩, List.forall_mem_cons.mpr ⟨⟨RX4, TX4, 5, rfl, inX4, tyX4_ok, zmem 297 rfl rfl, zmem 298 rfl rfl, zmem 80 rfl rfl⟩, List.forall_mem_cons.mpr ⟨⟨RX9, TX9, 4, rfl, inX9, tyX9_ok, zmem 322 rfl rfl, zmem 323 rfl rfl, zmem 81 rfl rfl⟩, List.forall_mem_cons.mpr ⟨⟨RX8, TX8, 4, rfl, inX8, tyX8_ok, zmem 341 rfl rfl, zmem 342 rfl rfl, zmem 82 rfl rfl⟩, List.forall_mem_cons.mpr ⟨⟨RX7, TX7, 3, rfl, inX7, tyX7_ok, zmem 363 rfl rfl, zmem 365 rfl rfl, zmem 83 rfl rfl⟩, fun _ h => absurd h List.not_mem_nil⟩⟩⟩⟩⟩⟩⟩⟩
def zNT_11 : List (Nat × Nat) := []
set_option maxRecDepth 100000 in
theorem zNT_11_ok : ∀ q ∈ zNT_11, ∃ (C : String) (T : u_T) (N : Nat), zcl[q.2]? = some (C, T, N) ∧ (∀ w ∈ u_ws C T N, w ∈ zTb) ∧ (∀ k, k < N → parseFieldDescriptor (T k).2.2.1 = some (zty q.2 k)) ∧ Cond.classLink (zon 11) q.1 C ∈ zTb ∧ Cond.instantiable C N ∈ zTb ∧ Cond.initialized C ∈ zTb := fun _ h => absurd h List.not_mem_nil
def zNT_12 : List (Nat × Nat) := []
set_option maxRecDepth 100000 in
theorem zNT_12_ok : ∀ q ∈ zNT_12, ∃ (C : String) (T : u_T) (N : Nat), zcl[q.2]? = some (C, T, N) ∧ (∀ w ∈ u_ws C T N, w ∈ zTb) ∧ (∀ k, k < N → parseFieldDescriptor (T k).2.2.1 = some (zty q.2 k)) ∧ Cond.classLink (zon 12) q.1 C ∈ zTb ∧ Cond.instantiable C N ∈ zTb ∧ Cond.initialized C ∈ zTb := fun _ h => absurd h List.not_mem_nil
def zNT_13 : List (Nat × Nat) := [(7, 10), (10, 11)]
set_option maxRecDepth 100000 in
theorem zNT_13_ok : ∀ q ∈ zNT_13, ∃ (C : String) (T : u_T) (N : Nat), zcl[q.2]? = some (C, T, N) ∧ (∀ w ∈ u_ws C T N, w ∈ zTb) ∧ (∀ k, k < N → parseFieldDescriptor (T k).2.2.1 = some (zty q.2 k)) ∧ Cond.classLink (zon 13) q.1 C ∈ zTb ∧ Cond.instantiable C N ∈ zTb ∧ Cond.initialized C ∈ zTb := List.forall_mem_cons.mpr ⟨⟨RX10, TX10, 10, rfl, inX10, tyX10_ok, zmem 87 rfl rfl, zmem 88 rfl rfl, zmem 72 rfl rfl⟩, List.forall_mem_cons.mpr ⟨⟨RX11, TX11, 25, rfl, inX11, tyX11_ok, zmem 879 rfl rfl, zmem 880 rfl rfl, zmem 84 rfl rfl⟩, fun _ h => absurd h List.not_mem_nil⟩⟩
def zNT : Nat → List (Nat × Nat) := fun o => match o with
  | 0 => zNT_0
  | 1 => zNT_1
  | 2 => zNT_2
  | 3 => zNT_3
  | 4 => zNT_4
  | 5 => zNT_5
  | 6 => zNT_6
  | 7 => zNT_7
  | 8 => zNT_8
  | 9 => zNT_9
  | 10 => zNT_10
  | 11 => zNT_11
  | 12 => zNT_12
  | 13 => zNT_13
  | _ => []
theorem zNT_ok : ∀ o, ∀ q ∈ zNT o, ∃ (C : String) (T : u_T) (N : Nat), zcl[q.2]? = some (C, T, N) ∧ (∀ w ∈ u_ws C T N, w ∈ zTb) ∧ (∀ k, k < N → parseFieldDescriptor (T k).2.2.1 = some (zty q.2 k)) ∧ Cond.classLink (zon o) q.1 C ∈ zTb ∧ Cond.instantiable C N ∈ zTb ∧ Cond.initialized C ∈ zTb := fun o => match o with
  | 0 => zNT_0_ok
  | 1 => zNT_1_ok
  | 2 => zNT_2_ok
  | 3 => zNT_3_ok
  | 4 => zNT_4_ok
  | 5 => zNT_5_ok
  | 6 => zNT_6_ok
  | 7 => zNT_7_ok
  | 8 => zNT_8_ok
  | 9 => zNT_9_ok
  | 10 => zNT_10_ok
  | 11 => zNT_11_ok
  | 12 => zNT_12_ok
  | 13 => zNT_13_ok
  | _ + 14 => fun _ h => absurd h List.not_mem_nil
def zAT_0 : List (Nat) := []
set_option maxRecDepth 100000 in
theorem zAT_0_ok : ∀ q ∈ zAT_0, Cond.classLink (zon 0) q zO ∈ zTb := fun _ h => absurd h List.not_mem_nil
def zAT_1 : List (Nat) := []
set_option maxRecDepth 100000 in
theorem zAT_1_ok : ∀ q ∈ zAT_1, Cond.classLink (zon 1) q zO ∈ zTb := fun _ h => absurd h List.not_mem_nil
def zAT_2 : List (Nat) := []
set_option maxRecDepth 100000 in
theorem zAT_2_ok : ∀ q ∈ zAT_2, Cond.classLink (zon 2) q zO ∈ zTb := fun _ h => absurd h List.not_mem_nil
def zAT_3 : List (Nat) := []
set_option maxRecDepth 100000 in
theorem zAT_3_ok : ∀ q ∈ zAT_3, Cond.classLink (zon 3) q zO ∈ zTb := fun _ h => absurd h List.not_mem_nil
def zAT_4 : List (Nat) := []
set_option maxRecDepth 100000 in
theorem zAT_4_ok : ∀ q ∈ zAT_4, Cond.classLink (zon 4) q zO ∈ zTb := fun _ h => absurd h List.not_mem_nil
def zAT_5 : List (Nat) := []
set_option maxRecDepth 100000 in
theorem zAT_5_ok : ∀ q ∈ zAT_5, Cond.classLink (zon 5) q zO ∈ zTb := fun _ h => absurd h List.not_mem_nil
def zAT_6 : List (Nat) := []
set_option maxRecDepth 100000 in
theorem zAT_6_ok : ∀ q ∈ zAT_6, Cond.classLink (zon 6) q zO ∈ zTb := fun _ h => absurd h List.not_mem_nil
def zAT_7 : List (Nat) := []
set_option maxRecDepth 100000 in
theorem zAT_7_ok : ∀ q ∈ zAT_7, Cond.classLink (zon 7) q zO ∈ zTb := fun _ h => absurd h List.not_mem_nil
def zAT_8 : List (Nat) := []
set_option maxRecDepth 100000 in
theorem zAT_8_ok : ∀ q ∈ zAT_8, Cond.classLink (zon 8) q zO ∈ zTb := fun _ h => absurd h List.not_mem_nil
def zAT_9 : List (Nat) := []
set_option maxRecDepth 100000 in
theorem zAT_9_ok : ∀ q ∈ zAT_9, Cond.classLink (zon 9) q zO ∈ zTb := fun _ h => absurd h List.not_mem_nil
def zAT_10 : List (Nat) := [81]
set_option maxRecDepth 100000 in
theorem zAT_10_ok : ∀ q ∈ zAT_10, Cond.classLink (zon 10) q zO ∈ zTb := List.forall_mem_cons.mpr ⟨zmem 363 rfl rfl, fun _ h => absurd h List.not_mem_nil⟩
def zAT_11 : List (Nat) := []
set_option maxRecDepth 100000 in
theorem zAT_11_ok : ∀ q ∈ zAT_11, Cond.classLink (zon 11) q zO ∈ zTb := fun _ h => absurd h List.not_mem_nil
def zAT_12 : List (Nat) := []
set_option maxRecDepth 100000 in
theorem zAT_12_ok : ∀ q ∈ zAT_12, Cond.classLink (zon 12) q zO ∈ zTb := fun _ h => absurd h List.not_mem_nil
def zAT_13 : List (Nat) := []
set_option maxRecDepth 100000 in
theorem zAT_13_ok : ∀ q ∈ zAT_13, Cond.classLink (zon 13) q zO ∈ zTb := fun _ h => absurd h List.not_mem_nil
def zAT : Nat → List (Nat) := fun o => match o with
  | 0 => zAT_0
  | 1 => zAT_1
  | 2 => zAT_2
  | 3 => zAT_3
  | 4 => zAT_4
  | 5 => zAT_5
  | 6 => zAT_6
  | 7 => zAT_7
  | 8 => zAT_8
  | 9 => zAT_9
  | 10 => zAT_10
  | 11 => zAT_11
  | 12 => zAT_12
  | 13 => zAT_13
  | _ => []
theorem zAT_ok : ∀ o, ∀ q ∈ zAT o, Cond.classLink (zon o) q zO ∈ zTb := fun o => match o with
  | 0 => zAT_0_ok
  | 1 => zAT_1_ok
  | 2 => zAT_2_ok
  | 3 => zAT_3_ok
  | 4 => zAT_4_ok
  | 5 => zAT_5_ok
  | 6 => zAT_6_ok
  | 7 => zAT_7_ok
  | 8 => zAT_8_ok
  | 9 => zAT_9_ok
  | 10 => zAT_10_ok
  | 11 => zAT_11_ok
  | 12 => zAT_12_ok
  | 13 => zAT_13_ok
  | _ + 14 => fun _ h => absurd h List.not_mem_nil
theorem zcl_ok : ∀ ci C T N, zcl[ci]? = some (C, T, N) → (∀ w ∈ u_ws C T N, w ∈ zTb) ∧ (∀ k, k < N → parseFieldDescriptor (T k).2.2.1 = some (zty ci k)) ∧ (∀ a, a < N → ∀ b, b < N → a ≠ b → (T a).2.1 ≠ (T b).2.1) ∧ (zfl ci).length = N ∧ ∀ k, k < N → (T k).1 = C := by
  intro ci C T N h
  match ci, h with
  | 0, h => cases h; exact ⟨inX0, tyX0_ok, nmX0, rfl, by decide +kernel⟩
  | 1, h => cases h; exact ⟨inX1, tyX1_ok, nmX1, rfl, by decide +kernel⟩
  | 2, h => cases h; exact ⟨inX2, tyX2_ok, nmX2, rfl, by decide +kernel⟩
  | 3, h => cases h; exact ⟨inX3, tyX3_ok, nmX3, rfl, by decide +kernel⟩
  | 4, h => cases h; exact ⟨inX4, tyX4_ok, nmX4, rfl, by decide +kernel⟩
  | 5, h => cases h; exact ⟨inX5, tyX5_ok, nmX5, rfl, by decide +kernel⟩
  | 6, h => cases h; exact ⟨inX6, tyX6_ok, nmX6, rfl, by decide +kernel⟩
  | 7, h => cases h; exact ⟨inX7, tyX7_ok, nmX7, rfl, by decide +kernel⟩
  | 8, h => cases h; exact ⟨inX8, tyX8_ok, nmX8, rfl, by decide +kernel⟩
  | 9, h => cases h; exact ⟨inX9, tyX9_ok, nmX9, rfl, by decide +kernel⟩
  | 10, h => cases h; exact ⟨inX10, tyX10_ok, nmX10, rfl, by decide +kernel⟩
  | 11, h => cases h; exact ⟨inX11, tyX11_ok, nmX11, rfl, by decide +kernel⟩
  | k + 12, h => simp [zcl] at h
set_option maxRecDepth 100000 in
theorem zw_oi : Cond.instanceMethod objectInit ∈ zTb := zmem 93 rfl rfl
set_option maxRecDepth 100000 in
theorem zw_oc : Cond.code objectInit ⟨#[0xb1]⟩ 1 none ∈ zTb := zmem 94 rfl rfl
set_option maxRecDepth 100000 in
theorem zw_ac : Cond.arrayClass .int ∈ zTb := zmem 155 rfl rfl
set_option maxRecDepth 100000 in
theorem zw_cn : Cond.native arraycopyName ∈ zTb := zmem 618 rfl rfl
set_option maxRecDepth 100000 in
theorem zw_cs : Cond.static arraycopyName ∈ zTb := zmem 617 rfl rfl
set_option maxRecDepth 100000 in
theorem zw_ci : Cond.initialized "java/lang/System" ∈ zTb := zmem 86 rfl rfl
set_option maxRecDepth 100000 in
theorem zw_mi : Cond.initialized "java/lang/Math" ∈ zTb := zmem 78 rfl rfl
set_option maxRecDepth 100000 in
theorem zw_abss : Cond.static Lib.Math.abs.name ∈ zTb := zmem 465 rfl rfl
set_option maxRecDepth 100000 in
theorem zw_absc : Cond.code Lib.Math.abs.name Lib.Math.abs.code 1 (some .int) ∈ zTb := zmem 466 rfl rfl
set_option maxRecDepth 100000 in
theorem zw_maxs : Cond.static Lib.Math.max.name ∈ zTb := zmem 198 rfl rfl
set_option maxRecDepth 100000 in
theorem zw_maxc : Cond.code Lib.Math.max.name Lib.Math.max.code 2 (some .int) ∈ zTb := zmem 199 rfl rfl
set_option maxRecDepth 100000 in
theorem zw_mins : Cond.static Lib.Math.min.name ∈ zTb := zmem 512 rfl rfl
set_option maxRecDepth 100000 in
theorem zw_minc : Cond.code Lib.Math.min.name Lib.Math.min.code 2 (some .int) ∈ zTb := zmem 513 rfl rfl
