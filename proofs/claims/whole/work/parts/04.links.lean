def zrc (q : Nat) : String × String × String := match q with
  | 0 => ("TunnelHearsay", "ABOVE", "[I")
  | 1 => ("TunnelHearsay$Voices", "BODIES", "[I")
  | _ => ("TunnelHearsay$Reader", "NAMES_OF_USES", "[C")
def zNest : List Cond := [.methodLinkNest RX10 11 yX6_init RX10, .methodLinkNest RX6 20 yX0_init RX10, .methodLinkNest RX6 27 yX3_init RX10, .methodLinkNest RX10 48 yX0_init RX10, .methodLinkNest RX10 76 yX8_init RX10, .methodLinkNest RX10 91 yX7_init RX10, .fieldLinkNest RX0 21 RX10 "ABOVE" "[I" RX10, .fieldLinkNest RX8 47 RX10 "ABOVE" "[I" RX10]
/-- a method: its name, code, locals, what it gives, [0 static 1 virtual 2 constructor, arguments (this too), number of its kind, cells, slots that it makes] -/
abbrev ZM : Type := MethodName × ByteArray × Nat × Option FieldType × (Nat × Nat × Nat × Nat × Nat)
/-- what the tables say of a method -/
def zgood (M : ZM) : Prop :=
  Cond.code M.1 M.2.1 M.2.2.1 M.2.2.2.1 ∈ zTb ∧ Cond.initialized M.1.cls ∈ zTb ∧ M.2.2.1 ≤ 20 ∧ plainName M.1.cls = true
  ∧ M.1.cls ≠ "java/lang/invoke/MethodHandle" ∧ M.1.cls ≠ "java/lang/invoke/VarHandle"
  ∧ (parseMethodDescriptor M.1.desc).map (fun d => d.parameters.length) = some (M.2.2.2.2.2.1 - (if M.2.2.2.2.1 = 0 then 0 else 1))
  ∧ ((M.2.2.2.2.1 = 0 ∧ Cond.static M.1 ∈ zTb)
    ∨ (M.2.2.2.2.1 = 1 ∧ Cond.instanceMethod M.1 ∈ zTb ∧ Cond.selects M.1.cls M.1 M.1 ∈ zTb ∧ zcl[M.2.2.2.2.2.2.1]?.map (fun q => q.1) = some M.1.cls ∧ 1 ≤ M.2.2.2.2.2.1)
    ∨ (M.2.2.2.2.1 = 2 ∧ Cond.instanceMethod M.1 ∈ zTb ∧ M.1.name = "<init>" ∧ M.2.2.2.1 = none ∧ 1 ≤ M.2.2.2.2.2.1))
abbrev zO : String := "TunnelHearsay$Sheet"
def zmL : List ZM := [(yX0_init, cX0_init, 1, none, 2, 1, 0, 3, 24),
  (yX0_isOrIsUnder, cX0_isOrIsUnder, 4, (some .boolean), 0, 2, 0, 0, 0),
  (yX0_copyFrom, cX0_copyFrom, 2, none, 1, 2, 0, 0, 0),
  (yX1_init, cX1_init, 5, none, 2, 5, 1, 1, 4),
  (yX1_goYear, cX1_goYear, 3, none, 1, 1, 1, 0, 0),
  (yX1_hearkens, cX1_hearkens, 5, (some .int), 1, 2, 1, 0, 0),
  (yX1_listen, cX1_listen, 4, none, 1, 2, 1, 0, 0),
  (yX1_pointOf, cX1_pointOf, 3, (some .int), 1, 2, 1, 0, 0),
  (yX1_pointAsEngineer, cX1_pointAsEngineer, 1, (some .int), 1, 1, 1, 0, 0),
  (yX1_pointAsSurveyor, cX1_pointAsSurveyor, 1, (some .int), 1, 1, 1, 0, 0),
  (yX1_pointAsDreamer, cX1_pointAsDreamer, 3, (some .int), 1, 2, 1, 0, 0),
  (yX1_pointAsForeman, cX1_pointAsForeman, 3, (some .int), 1, 2, 1, 0, 0),
  (yX1_turned, cX1_turned, 2, (some .int), 0, 2, 1, 0, 0),
  (yX1_weightOf, cX1_weightOf, 2, (some .int), 1, 2, 1, 0, 0),
  (yX1_earsOf, cX1_earsOf, 3, (some .int), 1, 3, 1, 0, 0),
  (yX2_init, cX2_init, 2, none, 2, 1, 2, 7, 156),
  (yX2_beside, cX2_beside, 4, (some .int), 0, 2, 2, 0, 0),
  (yX2_far, cX2_far, 2, (some .int), 0, 2, 2, 0, 0),
  (yX2_gap, cX2_gap, 1, (some .int), 1, 1, 2, 0, 0),
  (yX2_headsAt, cX2_headsAt, 2, (some .int), 1, 2, 2, 0, 0),
  (yX2_settle, cX2_settle, 4, none, 1, 3, 2, 0, 0),
  (yX2_hears, cX2_hears, 2, (some .int), 1, 2, 2, 0, 0),
  (yX2_go, cX2_go, 6, none, 1, 4, 2, 0, 0),
  (yX2_endYear, cX2_endYear, 2, none, 1, 1, 2, 0, 0),
  (yX2_copyFrom, cX2_copyFrom, 2, none, 1, 2, 2, 0, 0),
  (yX3_init, cX3_init, 1, none, 2, 1, 3, 3, 102),
  (yX3_gives, cX3_gives, 7, (some .int), 1, 4, 3, 0, 0),
  (yX3_operand, cX3_operand, 4, (some .int), 0, 4, 3, 0, 0),
  (yX3_joined, cX3_joined, 3, (some .int), 0, 3, 3, 0, 0),
  (yX4_init, cX4_init, 2, none, 2, 2, 4, 2, 52),
  (yX4_read, cX4_read, 2, (some .int), 1, 2, 4, 0, 0),
  (yX4_readLevel, cX4_readLevel, 6, none, 1, 3, 4, 0, 0),
  (yX4_readUnit, cX4_readUnit, 3, none, 1, 2, 4, 0, 0),
  (yX4_readNumber, cX4_readNumber, 3, none, 1, 1, 4, 0, 0),
  (yX4_readClosing, cX4_readClosing, 1, none, 1, 1, 4, 0, 0),
  (yX4_next, cX4_next, 1, (some .int), 1, 1, 4, 0, 0),
  (yX4_failHere, cX4_failHere, 1, none, 1, 1, 4, 0, 0),
  (yX4_isDigit, cX4_isDigit, 1, (some .boolean), 0, 1, 4, 0, 0),
  (yX4_nameOf, cX4_nameOf, 3, (some .int), 1, 2, 4, 0, 0),
  (yX4_levelOf, cX4_levelOf, 1, (some .int), 0, 1, 4, 0, 0),
  (yX5_init, cX5_init, 2, none, 2, 2, 5, 1, 50),
  (yX5_add, cX5_add, 2, (some .boolean), 1, 2, 5, 0, 0),
  (yX5_copyFrom, cX5_copyFrom, 2, none, 1, 2, 5, 0, 0),
  (yX6_init, cX6_init, 1, none, 2, 1, 6, 24, 506),
  (yX6_lawOf, cX6_lawOf, 2, (some (.object "TunnelHearsay$Law")), 1, 2, 6, 0, 0),
  (yX6_draw, cX6_draw, 1, (some .int), 1, 1, 6, 0, 0),
  (yX6_copyFrom, cX6_copyFrom, 2, none, 1, 2, 6, 0, 0),
  (yX7_init, cX7_init, 1, none, 2, 1, 7, 1, 40),
  (yX7_begin, cX7_begin, 3, none, 1, 3, 7, 0, 0),
  (yX7_write, cX7_write, 3, none, 1, 3, 7, 0, 0),
  (yX7_holds, cX7_holds, 3, (some .boolean), 1, 3, 7, 0, 0),
  (yX8_init, cX8_init, 1, none, 2, 1, 8, 2, 52),
  (yX8_speak, cX8_speak, 5, (some .int), 1, 5, 8, 0, 0),
  (yX8_say, cX8_say, 8, (some .int), 1, 5, 8, 0, 0),
  (yX8_bodyOf, cX8_bodyOf, 5, (some .int), 1, 5, 8, 0, 0),
  (yX9_init, cX9_init, 2, none, 2, 2, 9, 3, 192),
  (yX9_leastRock, cX9_leastRock, 7, (some .int), 1, 3, 9, 0, 0),
  (yX9_toll, cX9_toll, 2, (some .int), 1, 2, 9, 0, 0),
  (yX9_cheapest, cX9_cheapest, 4, (some .int), 1, 1, 9, 0, 0),
  (yX9_fewestWays, cX9_fewestWays, 3, (some .int), 1, 3, 9, 0, 0),
  (yX9_partsDug, cX9_partsDug, 3, (some .int), 1, 1, 9, 0, 0),
  (yX9_flood, cX9_flood, 7, none, 1, 2, 9, 0, 0),
  (yX9_isDug, cX9_isDug, 2, (some .boolean), 1, 2, 9, 0, 0),
  (yX9_alongLeft, cX9_alongLeft, 8, (some .int), 1, 4, 9, 0, 0),
  (yX9_wayAlongLeft, cX9_wayAlongLeft, 5, (some .int), 1, 3, 9, 0, 0),
  (yX10_init, cX10_init, 2, none, 2, 1, 10, 86, 1739),
  (yX10_rock, cX10_rock, 4, (some .int), 1, 3, 10, 0, 0),
  (yX10_dig, cX10_dig, 4, (some .int), 1, 3, 10, 0, 0),
  (yX10_ofCell, cX10_ofCell, 3, (some .int), 1, 3, 10, 0, 0),
  (yX10_head, cX10_head, 6, (some .int), 1, 4, 10, 0, 0),
  (yX10_mostOfHead, cX10_mostOfHead, 1, (some .int), 0, 1, 10, 0, 0),
  (yX10_ofHead, cX10_ofHead, 3, (some .int), 1, 3, 10, 0, 0),
  (yX10_delay, cX10_delay, 3, (some .int), 1, 2, 10, 0, 0),
  (yX10_engineer, cX10_engineer, 4, (some .int), 1, 3, 10, 0, 0),
  (yX10_ofEngineer, cX10_ofEngineer, 3, (some .int), 1, 3, 10, 0, 0),
  (yX10_change, cX10_change, 4, (some .int), 1, 3, 10, 0, 0),
  (yX10_become, cX10_become, 4, (some .int), 1, 3, 10, 0, 0),
  (yX10_as, cX10_as, 3, (some .int), 1, 3, 10, 0, 0),
  (yX10_feed, cX10_feed, 5, (some .int), 1, 3, 10, 0, 0),
  (yX10_text, cX10_text, 3, (some .int), 1, 2, 10, 0, 0),
  (yX10_law, cX10_law, 5, (some .int), 1, 5, 10, 0, 0),
  (yX10_years, cX10_years, 3, (some .int), 1, 2, 10, 0, 0),
  (yX10_loose, cX10_loose, 4, (some .int), 1, 2, 10, 0, 0),
  (yX10_then, cX10_then, 4, (some .int), 1, 4, 10, 0, 0),
  (yX10_meets, cX10_meets, 2, (some .int), 1, 1, 10, 0, 0),
  (yX10_apart, cX10_apart, 2, (some .int), 1, 2, 10, 0, 0),
  (yX10_delayFor, cX10_delayFor, 6, (some .int), 1, 2, 10, 0, 0),
  (yX10_powerFor, cX10_powerFor, 5, (some .int), 1, 4, 10, 0, 0),
  (yX10_needless, cX10_needless, 5, (some .int), 1, 2, 10, 0, 0),
  (yX10_heard, cX10_heard, 7, (some .int), 1, 4, 10, 0, 0),
  (yX10_which, cX10_which, 5, (some .int), 1, 3, 10, 0, 0),
  (yX10_join, cX10_join, 3, (some .int), 1, 3, 10, 0, 0),
  (yX10_steps, cX10_steps, 4, (some .int), 1, 3, 10, 0, 0),
  (yX10_hand, cX10_hand, 4, (some .int), 1, 4, 10, 0, 0),
  (yX10_parts, cX10_parts, 1, (some .int), 1, 1, 10, 0, 0),
  (yX10_odds, cX10_odds, 7, (some .int), 1, 4, 10, 0, 0),
  (yX10_seed, cX10_seed, 3, (some .int), 1, 2, 10, 0, 0),
  (yX10_voice, cX10_voice, 4, (some .int), 1, 4, 10, 0, 0),
  (yX10_trace, cX10_trace, 2, (some .int), 1, 2, 10, 0, 0),
  (yX10_sheet, cX10_sheet, 4, (some .int), 1, 4, 10, 0, 0),
  (yX10_put, cX10_put, 4, (some .int), 1, 4, 10, 0, 0),
  (yX10_move, cX10_move, 8, (some .int), 1, 6, 10, 0, 0),
  (yX10_rocks, cX10_rocks, 4, (some .int), 1, 2, 10, 0, 0),
  (yX10_judge, cX10_judge, 5, (some .int), 1, 2, 10, 0, 0),
  (yX10_image, cX10_image, 1, (some .int), 1, 1, 10, 0, 0),
  (yX10_restore, cX10_restore, 1, (some .int), 1, 1, 10, 0, 0),
  (yX10_tell, cX10_tell, 2, (some .int), 1, 2, 10, 0, 0),
  (yX10_check, cX10_check, 3, (some .int), 1, 1, 10, 0, 0),
  (yX10_count, cX10_count, 2, (some .int), 1, 2, 10, 0, 0),
  (yX10_told, cX10_told, 2, (some .int), 1, 2, 10, 0, 0),
  (yX10_failed, cX10_failed, 2, (some .int), 1, 2, 10, 0, 0),
  (yX10_isBeyond, cX10_isBeyond, 2, (some .boolean), 0, 2, 10, 0, 0),
  (yX10_isNobody, cX10_isNobody, 2, (some .boolean), 1, 2, 10, 0, 0),
  (yX10_think, cX10_think, 1, none, 1, 1, 10, 0, 0),
  (yX10_gapBehind, cX10_gapBehind, 3, (some .int), 1, 2, 10, 0, 0),
  (yX10_goesAsTold, cX10_goesAsTold, 4, (some .boolean), 1, 3, 10, 0, 0),
  (yX10_sharedFactor, cX10_sharedFactor, 3, (some .int), 0, 2, 10, 0, 0),
  (yX10_sumOf, cX10_sumOf, 4, (some .int), 0, 2, 10, 0, 0),
  (yX11_init, cX11_init, 2, none, 2, 1, 11, 14, 1407),
  (yX11_finds, cX11_finds, 2, (some .int), 1, 2, 11, 0, 0),
  (yX11_in, cX11_in, 6, (some .boolean), 0, 3, 11, 0, 0),
  (yX11_held, cX11_held, 3, (some .int), 0, 3, 11, 0, 0),
  (yX11_size, cX11_size, 1, (some .int), 0, 1, 11, 0, 0),
  (yX11_isEngineer, cX11_isEngineer, 2, (some .boolean), 1, 2, 11, 0, 0),
  (yX11_isCell, cX11_isCell, 1, (some .boolean), 0, 1, 11, 0, 0),
  (yX11_isHead, cX11_isHead, 1, (some .boolean), 0, 1, 11, 0, 0),
  (yX11_of, cX11_of, 3, (some .int), 1, 3, 11, 0, 0),
  (yX11_its, cX11_its, 3, (some .int), 1, 3, 11, 0, 0),
  (yX11_above, cX11_above, 1, (some .int), 0, 1, 11, 0, 0),
  (yX11_becomes, cX11_becomes, 4, (some .int), 1, 3, 11, 0, 0),
  (yX11_keepAside, cX11_keepAside, 2, none, 1, 1, 11, 0, 0),
  (yX11_putBack, cX11_putBack, 2, none, 1, 1, 11, 0, 0),
  (yX11_here, cX11_here, 1, (some .int), 1, 1, 11, 0, 0),
  (yX11_wrong, cX11_wrong, 1, none, 1, 1, 11, 0, 0),
  (yX11_takes, cX11_takes, 2, (some .boolean), 1, 2, 11, 0, 0),
  (yX11_nameOf, cX11_nameOf, 2, (some .int), 1, 2, 11, 0, 0),
  (yX11_lay, cX11_lay, 2, none, 1, 2, 11, 0, 0),
  (yX11_either, cX11_either, 1, none, 1, 1, 11, 0, 0),
  (yX11_both, cX11_both, 1, none, 1, 1, 11, 0, 0),
  (yX11_compared, cX11_compared, 2, none, 1, 1, 11, 0, 0),
  (yX11_sum, cX11_sum, 2, none, 1, 1, 11, 0, 0),
  (yX11_product, cX11_product, 2, none, 1, 1, 11, 0, 0),
  (yX11_opens, cX11_opens, 2, none, 1, 2, 11, 0, 0),
  (yX11_unit, cX11_unit, 5, none, 1, 1, 11, 0, 0),
  (yX11_reads, cX11_reads, 4, none, 1, 4, 11, 0, 0),
  (yX11_done, cX11_done, 3, (some .int), 0, 3, 11, 0, 0),
  (yX11_worked, cX11_worked, 6, (some .int), 1, 3, 11, 0, 0),
  (yX11_feed, cX11_feed, 5, (some .int), 1, 3, 11, 0, 0),
  (yX11_text, cX11_text, 4, (some .int), 1, 2, 11, 0, 0),
  (yX11_textGives, cX11_textGives, 6, (some .int), 1, 5, 11, 0, 0),
  (yX11_law, cX11_law, 5, (some .int), 1, 5, 11, 0, 0),
  (yX11_far, cX11_far, 2, (some .int), 0, 2, 11, 0, 0),
  (yX11_beside, cX11_beside, 2, (some .int), 0, 2, 11, 0, 0),
  (yX11_heads, cX11_heads, 1, (some .int), 1, 1, 11, 0, 0),
  (yX11_isPut, cX11_isPut, 4, none, 1, 3, 11, 0, 0),
  (yX11_heardBy, cX11_heardBy, 2, (some .int), 1, 2, 11, 0, 0),
  (yX11_farHeard, cX11_farHeard, 3, (some .int), 1, 2, 11, 0, 0),
  (yX11_turned, cX11_turned, 2, (some .int), 0, 2, 11, 0, 0),
  (yX11_points, cX11_points, 11, (some .int), 1, 2, 11, 0, 0),
  (yX11_earsOf, cX11_earsOf, 3, (some .int), 1, 2, 11, 0, 0),
  (yX11_gives, cX11_gives, 2, (some .int), 1, 2, 11, 0, 0),
  (yX11_hearkens, cX11_hearkens, 7, (some .int), 1, 2, 11, 0, 0),
  (yX11_goes, cX11_goes, 5, none, 1, 3, 11, 0, 0),
  (yX11_yearGoes, cX11_yearGoes, 5, none, 1, 1, 11, 0, 0),
  (yX11_yearsGo, cX11_yearsGo, 3, none, 1, 2, 11, 0, 0),
  (yX11_rock, cX11_rock, 3, (some .int), 1, 3, 11, 0, 0),
  (yX11_headsAt, cX11_headsAt, 2, (some .int), 1, 2, 11, 0, 0),
  (yX11_dig, cX11_dig, 3, (some .int), 1, 3, 11, 0, 0),
  (yX11_ofCell, cX11_ofCell, 3, (some .int), 1, 3, 11, 0, 0),
  (yX11_head, cX11_head, 5, (some .int), 1, 4, 11, 0, 0),
  (yX11_ofHead, cX11_ofHead, 3, (some .int), 1, 3, 11, 0, 0),
  (yX11_delay, cX11_delay, 2, (some .int), 1, 2, 11, 0, 0),
  (yX11_isKm, cX11_isKm, 1, (some .boolean), 0, 1, 11, 0, 0),
  (yX11_engineer, cX11_engineer, 4, (some .int), 1, 3, 11, 0, 0),
  (yX11_ofEngineer, cX11_ofEngineer, 3, (some .int), 1, 3, 11, 0, 0),
  (yX11_change, cX11_change, 3, (some .int), 1, 3, 11, 0, 0),
  (yX11_become, cX11_become, 3, (some .int), 1, 3, 11, 0, 0),
  (yX11_as, cX11_as, 4, (some .int), 1, 3, 11, 0, 0),
  (yX11_isLate, cX11_isLate, 2, (some .boolean), 1, 2, 11, 0, 0),
  (yX11_years, cX11_years, 2, (some .int), 1, 2, 11, 0, 0),
  (yX11_draw, cX11_draw, 1, (some .int), 1, 1, 11, 0, 0),
  (yX11_loose, cX11_loose, 4, (some .int), 1, 2, 11, 0, 0),
  (yX11_seed, cX11_seed, 2, (some .int), 1, 2, 11, 0, 0),
  (yX11_isAhead, cX11_isAhead, 1, (some .boolean), 0, 1, 11, 0, 0),
  (yX11_then, cX11_then, 5, (some .int), 1, 4, 11, 0, 0),
  (yX11_meets, cX11_meets, 3, (some .int), 1, 1, 11, 0, 0),
  (yX11_apartBehind, cX11_apartBehind, 3, (some .int), 1, 2, 11, 0, 0),
  (yX11_apart, cX11_apart, 2, (some .int), 1, 2, 11, 0, 0),
  (yX11_delayFor, cX11_delayFor, 6, (some .int), 1, 2, 11, 0, 0),
  (yX11_powerFor, cX11_powerFor, 5, (some .int), 1, 4, 11, 0, 0),
  (yX11_needless, cX11_needless, 5, (some .int), 1, 2, 11, 0, 0),
  (yX11_isTold, cX11_isTold, 5, (some .boolean), 1, 3, 11, 0, 0),
  (yX11_heard, cX11_heard, 8, (some .int), 1, 4, 11, 0, 0),
  (yX11_which, cX11_which, 5, (some .int), 1, 3, 11, 0, 0),
  (yX11_measures, cX11_measures, 8, none, 1, 3, 11, 0, 0),
  (yX11_takesRock, cX11_takesRock, 2, (some .int), 1, 2, 11, 0, 0),
  (yX11_join, cX11_join, 3, (some .int), 1, 3, 11, 0, 0),
  (yX11_steps, cX11_steps, 3, (some .int), 1, 3, 11, 0, 0),
  (yX11_isOpen, cX11_isOpen, 4, (some .boolean), 1, 3, 11, 0, 0),
  (yX11_hand, cX11_hand, 10, (some .int), 1, 4, 11, 0, 0),
  (yX11_parts, cX11_parts, 4, (some .int), 1, 1, 11, 0, 0),
  (yX11_common, cX11_common, 5, (some .int), 0, 2, 11, 0, 0),
  (yX11_odds, cX11_odds, 6, (some .int), 1, 4, 11, 0, 0),
  (yX11_ran, cX11_ran, 2, none, 1, 2, 11, 0, 0),
  (yX11_knocksBy, cX11_knocksBy, 3, (some .int), 1, 3, 11, 0, 0),
  (yX11_hearsBy, cX11_hearsBy, 4, (some .int), 1, 3, 11, 0, 0),
  (yX11_digsBy, cX11_digsBy, 3, (some .int), 1, 3, 11, 0, 0),
  (yX11_tellsBy, cX11_tellsBy, 4, (some .int), 1, 3, 11, 0, 0),
  (yX11_voice, cX11_voice, 5, (some .int), 1, 4, 11, 0, 0),
  (yX11_trace, cX11_trace, 2, (some .int), 1, 2, 11, 0, 0),
  (yX11_isSheet, cX11_isSheet, 1, (some .boolean), 0, 1, 11, 0, 0),
  (yX11_sheet, cX11_sheet, 5, (some .int), 1, 4, 11, 0, 0),
  (yX11_put, cX11_put, 4, (some .int), 1, 4, 11, 0, 0),
  (yX11_move, cX11_move, 7, (some .int), 1, 6, 11, 0, 0),
  (yX11_rocks, cX11_rocks, 3, (some .int), 1, 2, 11, 0, 0),
  (yX11_judge, cX11_judge, 3, (some .int), 1, 2, 11, 0, 0),
  (yX11_image, cX11_image, 2, (some .int), 1, 1, 11, 0, 0),
  (yX11_restore, cX11_restore, 2, (some .int), 1, 1, 11, 0, 0),
  (yX11_tell, cX11_tell, 2, (some .int), 1, 2, 11, 0, 0),
  (yX11_check, cX11_check, 4, (some .int), 1, 1, 11, 0, 0),
  (yX11_sumOf, cX11_sumOf, 6, (some .int), 1, 4, 11, 0, 0),
  (yX11_count, cX11_count, 2, (some .int), 1, 2, 11, 0, 0),
  (yX11_told, cX11_told, 2, (some .int), 1, 2, 11, 0, 0),
  (yJ7_fill_53178, cJ7_fill_53178, 4, none, 0, 2, 0, 0, 0)]
def zm (n : Nat) : ZM := zmL.getD n (yX0_init, cX0_init, 0, none, 0, 0, 0, 0, 0)
abbrev mX0_init : ZM := (yX0_init, cX0_init, 1, none, 2, 1, 0, 3, 24)
set_option maxRecDepth 100000 in
theorem gd_X0_init : zgood mX0_init := ⟨zi_9 (List.mem_of_getElem? (i := 2) rfl), zi_4 (List.mem_of_getElem? (i := 10) rfl), by decide, by decide +kernel, by decide +kernel, by decide +kernel, by decide +kernel, Or.inr (Or.inr ⟨rfl, zi_9 (List.mem_of_getElem? (i := 1) rfl), rfl, rfl, by decide⟩)⟩
abbrev mX0_isOrIsUnder : ZM := (yX0_isOrIsUnder, cX0_isOrIsUnder, 4, (some .boolean), 0, 2, 0, 0, 0)
set_option maxRecDepth 100000 in
theorem gd_X0_isOrIsUnder : zgood mX0_isOrIsUnder := ⟨zi_28 (List.mem_of_getElem? (i := 15) rfl), zi_4 (List.mem_of_getElem? (i := 10) rfl), by decide, by decide +kernel, by decide +kernel, by decide +kernel, by decide +kernel, Or.inl ⟨rfl, zi_28 (List.mem_of_getElem? (i := 14) rfl)⟩⟩
abbrev mX0_copyFrom : ZM := (yX0_copyFrom, cX0_copyFrom, 2, none, 1, 2, 0, 0, 0)
set_option maxRecDepth 100000 in
theorem gd_X0_copyFrom : zgood mX0_copyFrom := ⟨zi_36 (List.mem_of_getElem? (i := 5) rfl), zi_4 (List.mem_of_getElem? (i := 10) rfl), by decide, by decide +kernel, by decide +kernel, by decide +kernel, by decide +kernel, Or.inr (Or.inl ⟨rfl, zi_36 (List.mem_of_getElem? (i := 3) rfl), zi_36 (List.mem_of_getElem? (i := 4) rfl), rfl, by decide⟩)⟩
abbrev mX1_init : ZM := (yX1_init, cX1_init, 5, none, 2, 5, 1, 1, 4)
set_option maxRecDepth 100000 in
theorem gd_X1_init : zgood mX1_init := ⟨zi_14 (List.mem_of_getElem? (i := 0) rfl), zi_4 (List.mem_of_getElem? (i := 14) rfl), by decide, by decide +kernel, by decide +kernel, by decide +kernel, by decide +kernel, Or.inr (Or.inr ⟨rfl, zi_13 (List.mem_of_getElem? (i := 15) rfl), rfl, rfl, by decide⟩)⟩
abbrev mX1_goYear : ZM := (yX1_goYear, cX1_goYear, 3, none, 1, 1, 1, 0, 0)
set_option maxRecDepth 100000 in
theorem gd_X1_goYear : zgood mX1_goYear := ⟨zi_33 (List.mem_of_getElem? (i := 6) rfl), zi_4 (List.mem_of_getElem? (i := 14) rfl), by decide, by decide +kernel, by decide +kernel, by decide +kernel, by decide +kernel, Or.inr (Or.inl ⟨rfl, zi_33 (List.mem_of_getElem? (i := 4) rfl), zi_33 (List.mem_of_getElem? (i := 5) rfl), rfl, by decide⟩)⟩
abbrev mX1_hearkens : ZM := (yX1_hearkens, cX1_hearkens, 5, (some .int), 1, 2, 1, 0, 0)
set_option maxRecDepth 100000 in
theorem gd_X1_hearkens : zgood mX1_hearkens := ⟨zi_23 (List.mem_of_getElem? (i := 6) rfl), zi_4 (List.mem_of_getElem? (i := 14) rfl), by decide, by decide +kernel, by decide +kernel, by decide +kernel, by decide +kernel, Or.inr (Or.inl ⟨rfl, zi_23 (List.mem_of_getElem? (i := 4) rfl), zi_23 (List.mem_of_getElem? (i := 5) rfl), rfl, by decide⟩)⟩
abbrev mX1_listen : ZM := (yX1_listen, cX1_listen, 4, none, 1, 2, 1, 0, 0)
set_option maxRecDepth 100000 in
theorem gd_X1_listen : zgood mX1_listen := ⟨zi_23 (List.mem_of_getElem? (i := 10) rfl), zi_4 (List.mem_of_getElem? (i := 14) rfl), by decide, by decide +kernel, by decide +kernel, by decide +kernel, by decide +kernel, Or.inr (Or.inl ⟨rfl, zi_23 (List.mem_of_getElem? (i := 8) rfl), zi_23 (List.mem_of_getElem? (i := 9) rfl), rfl, by decide⟩)⟩
abbrev mX1_pointOf : ZM := (yX1_pointOf, cX1_pointOf, 3, (some .int), 1, 2, 1, 0, 0)
set_option maxRecDepth 100000 in
theorem gd_X1_pointOf : zgood mX1_pointOf := ⟨zi_24 (List.mem_of_getElem? (i := 8) rfl), zi_4 (List.mem_of_getElem? (i := 14) rfl), by decide, by decide +kernel, by decide +kernel, by decide +kernel, by decide +kernel, Or.inr (Or.inl ⟨rfl, zi_24 (List.mem_of_getElem? (i := 6) rfl), zi_24 (List.mem_of_getElem? (i := 7) rfl), rfl, by decide⟩)⟩
abbrev mX1_pointAsEngineer : ZM := (yX1_pointAsEngineer, cX1_pointAsEngineer, 1, (some .int), 1, 1, 1, 0, 0)
set_option maxRecDepth 100000 in
theorem gd_X1_pointAsEngineer : zgood mX1_pointAsEngineer := ⟨zi_24 (List.mem_of_getElem? (i := 14) rfl), zi_4 (List.mem_of_getElem? (i := 14) rfl), by decide, by decide +kernel, by decide +kernel, by decide +kernel, by decide +kernel, Or.inr (Or.inl ⟨rfl, zi_24 (List.mem_of_getElem? (i := 13) rfl), zi_0 (List.mem_of_getElem? (i := 2) rfl), rfl, by decide⟩)⟩
abbrev mX1_pointAsSurveyor : ZM := (yX1_pointAsSurveyor, cX1_pointAsSurveyor, 1, (some .int), 1, 1, 1, 0, 0)
set_option maxRecDepth 100000 in
theorem gd_X1_pointAsSurveyor : zgood mX1_pointAsSurveyor := ⟨zi_24 (List.mem_of_getElem? (i := 11) rfl), zi_4 (List.mem_of_getElem? (i := 14) rfl), by decide, by decide +kernel, by decide +kernel, by decide +kernel, by decide +kernel, Or.inr (Or.inl ⟨rfl, zi_24 (List.mem_of_getElem? (i := 10) rfl), zi_0 (List.mem_of_getElem? (i := 1) rfl), rfl, by decide⟩)⟩
abbrev mX1_pointAsDreamer : ZM := (yX1_pointAsDreamer, cX1_pointAsDreamer, 3, (some .int), 1, 2, 1, 0, 0)
set_option maxRecDepth 100000 in
theorem gd_X1_pointAsDreamer : zgood mX1_pointAsDreamer := ⟨zi_25 (List.mem_of_getElem? (i := 1) rfl), zi_4 (List.mem_of_getElem? (i := 14) rfl), by decide, by decide +kernel, by decide +kernel, by decide +kernel, by decide +kernel, Or.inr (Or.inl ⟨rfl, zi_25 (List.mem_of_getElem? (i := 0) rfl), zi_0 (List.mem_of_getElem? (i := 3) rfl), rfl, by decide⟩)⟩
abbrev mX1_pointAsForeman : ZM := (yX1_pointAsForeman, cX1_pointAsForeman, 3, (some .int), 1, 2, 1, 0, 0)
set_option maxRecDepth 100000 in
theorem gd_X1_pointAsForeman : zgood mX1_pointAsForeman := ⟨zi_25 (List.mem_of_getElem? (i := 7) rfl), zi_4 (List.mem_of_getElem? (i := 14) rfl), by decide, by decide +kernel, by decide +kernel, by decide +kernel, by decide +kernel, Or.inr (Or.inl ⟨rfl, zi_25 (List.mem_of_getElem? (i := 6) rfl), zi_0 (List.mem_of_getElem? (i := 4) rfl), rfl, by decide⟩)⟩
abbrev mX1_turned : ZM := (yX1_turned, cX1_turned, 2, (some .int), 0, 2, 1, 0, 0)
set_option maxRecDepth 100000 in
theorem gd_X1_turned : zgood mX1_turned := ⟨zi_25 (List.mem_of_getElem? (i := 4) rfl), zi_4 (List.mem_of_getElem? (i := 14) rfl), by decide, by decide +kernel, by decide +kernel, by decide +kernel, by decide +kernel, Or.inl ⟨rfl, zi_25 (List.mem_of_getElem? (i := 3) rfl)⟩⟩
abbrev mX1_weightOf : ZM := (yX1_weightOf, cX1_weightOf, 2, (some .int), 1, 2, 1, 0, 0)
set_option maxRecDepth 100000 in
theorem gd_X1_weightOf : zgood mX1_weightOf := ⟨zi_25 (List.mem_of_getElem? (i := 11) rfl), zi_4 (List.mem_of_getElem? (i := 14) rfl), by decide, by decide +kernel, by decide +kernel, by decide +kernel, by decide +kernel, Or.inr (Or.inl ⟨rfl, zi_25 (List.mem_of_getElem? (i := 9) rfl), zi_25 (List.mem_of_getElem? (i := 10) rfl), rfl, by decide⟩)⟩
abbrev mX1_earsOf : ZM := (yX1_earsOf, cX1_earsOf, 3, (some .int), 1, 3, 1, 0, 0)
set_option maxRecDepth 100000 in
theorem gd_X1_earsOf : zgood mX1_earsOf := ⟨zi_25 (List.mem_of_getElem? (i := 14) rfl), zi_4 (List.mem_of_getElem? (i := 14) rfl), by decide, by decide +kernel, by decide +kernel, by decide +kernel, by decide +kernel, Or.inr (Or.inl ⟨rfl, zi_25 (List.mem_of_getElem? (i := 13) rfl), zi_0 (List.mem_of_getElem? (i := 5) rfl), rfl, by decide⟩)⟩
abbrev mX2_init : ZM := (yX2_init, cX2_init, 2, none, 2, 1, 2, 7, 156)
set_option maxRecDepth 100000 in
theorem gd_X2_init : zgood mX2_init := ⟨zi_6 (List.mem_of_getElem? (i := 7) rfl), zi_4 (List.mem_of_getElem? (i := 9) rfl), by decide, by decide +kernel, by decide +kernel, by decide +kernel, by decide +kernel, Or.inr (Or.inr ⟨rfl, zi_6 (List.mem_of_getElem? (i := 6) rfl), rfl, rfl, by decide⟩)⟩
abbrev mX2_beside : ZM := (yX2_beside, cX2_beside, 4, (some .int), 0, 2, 2, 0, 0)
set_option maxRecDepth 100000 in
theorem gd_X2_beside : zgood mX2_beside := ⟨zi_33 (List.mem_of_getElem? (i := 14) rfl), zi_4 (List.mem_of_getElem? (i := 9) rfl), by decide, by decide +kernel, by decide +kernel, by decide +kernel, by decide +kernel, Or.inl ⟨rfl, zi_33 (List.mem_of_getElem? (i := 13) rfl)⟩⟩
abbrev mX2_far : ZM := (yX2_far, cX2_far, 2, (some .int), 0, 2, 2, 0, 0)
set_option maxRecDepth 100000 in
theorem gd_X2_far : zgood mX2_far := ⟨zi_34 (List.mem_of_getElem? (i := 11) rfl), zi_4 (List.mem_of_getElem? (i := 9) rfl), by decide, by decide +kernel, by decide +kernel, by decide +kernel, by decide +kernel, Or.inl ⟨rfl, zi_34 (List.mem_of_getElem? (i := 10) rfl)⟩⟩
abbrev mX2_gap : ZM := (yX2_gap, cX2_gap, 1, (some .int), 1, 1, 2, 0, 0)
set_option maxRecDepth 100000 in
theorem gd_X2_gap : zgood mX2_gap := ⟨zi_34 (List.mem_of_getElem? (i := 8) rfl), zi_4 (List.mem_of_getElem? (i := 9) rfl), by decide, by decide +kernel, by decide +kernel, by decide +kernel, by decide +kernel, Or.inr (Or.inl ⟨rfl, zi_34 (List.mem_of_getElem? (i := 6) rfl), zi_34 (List.mem_of_getElem? (i := 7) rfl), rfl, by decide⟩)⟩
abbrev mX2_headsAt : ZM := (yX2_headsAt, cX2_headsAt, 2, (some .int), 1, 2, 2, 0, 0)
set_option maxRecDepth 100000 in
theorem gd_X2_headsAt : zgood mX2_headsAt := ⟨zi_22 (List.mem_of_getElem? (i := 1) rfl), zi_4 (List.mem_of_getElem? (i := 9) rfl), by decide, by decide +kernel, by decide +kernel, by decide +kernel, by decide +kernel, Or.inr (Or.inl ⟨rfl, zi_21 (List.mem_of_getElem? (i := 15) rfl), zi_22 (List.mem_of_getElem? (i := 0) rfl), rfl, by decide⟩)⟩
abbrev mX2_settle : ZM := (yX2_settle, cX2_settle, 4, none, 1, 3, 2, 0, 0)
set_option maxRecDepth 100000 in
theorem gd_X2_settle : zgood mX2_settle := ⟨zi_6 (List.mem_of_getElem? (i := 12) rfl), zi_4 (List.mem_of_getElem? (i := 9) rfl), by decide, by decide +kernel, by decide +kernel, by decide +kernel, by decide +kernel, Or.inr (Or.inl ⟨rfl, zi_6 (List.mem_of_getElem? (i := 10) rfl), zi_6 (List.mem_of_getElem? (i := 11) rfl), rfl, by decide⟩)⟩
abbrev mX2_hears : ZM := (yX2_hears, cX2_hears, 2, (some .int), 1, 2, 2, 0, 0)
set_option maxRecDepth 100000 in
theorem gd_X2_hears : zgood mX2_hears := ⟨zi_23 (List.mem_of_getElem? (i := 14) rfl), zi_4 (List.mem_of_getElem? (i := 9) rfl), by decide, by decide +kernel, by decide +kernel, by decide +kernel, by decide +kernel, Or.inr (Or.inl ⟨rfl, zi_23 (List.mem_of_getElem? (i := 12) rfl), zi_23 (List.mem_of_getElem? (i := 13) rfl), rfl, by decide⟩)⟩
abbrev mX2_go : ZM := (yX2_go, cX2_go, 6, none, 1, 4, 2, 0, 0)
set_option maxRecDepth 100000 in
theorem gd_X2_go : zgood mX2_go := ⟨zi_33 (List.mem_of_getElem? (i := 11) rfl), zi_4 (List.mem_of_getElem? (i := 9) rfl), by decide, by decide +kernel, by decide +kernel, by decide +kernel, by decide +kernel, Or.inr (Or.inl ⟨rfl, zi_33 (List.mem_of_getElem? (i := 9) rfl), zi_33 (List.mem_of_getElem? (i := 10) rfl), rfl, by decide⟩)⟩
abbrev mX2_endYear : ZM := (yX2_endYear, cX2_endYear, 2, none, 1, 1, 2, 0, 0)
set_option maxRecDepth 100000 in
theorem gd_X2_endYear : zgood mX2_endYear := ⟨zi_34 (List.mem_of_getElem? (i := 4) rfl), zi_4 (List.mem_of_getElem? (i := 9) rfl), by decide, by decide +kernel, by decide +kernel, by decide +kernel, by decide +kernel, Or.inr (Or.inl ⟨rfl, zi_34 (List.mem_of_getElem? (i := 2) rfl), zi_34 (List.mem_of_getElem? (i := 3) rfl), rfl, by decide⟩)⟩
abbrev mX2_copyFrom : ZM := (yX2_copyFrom, cX2_copyFrom, 2, none, 1, 2, 2, 0, 0)
set_option maxRecDepth 100000 in
theorem gd_X2_copyFrom : zgood mX2_copyFrom := ⟨zi_36 (List.mem_of_getElem? (i := 0) rfl), zi_4 (List.mem_of_getElem? (i := 9) rfl), by decide, by decide +kernel, by decide +kernel, by decide +kernel, by decide +kernel, Or.inr (Or.inl ⟨rfl, zi_35 (List.mem_of_getElem? (i := 14) rfl), zi_35 (List.mem_of_getElem? (i := 15) rfl), rfl, by decide⟩)⟩
abbrev mX3_init : ZM := (yX3_init, cX3_init, 1, none, 2, 1, 3, 3, 102)
set_option maxRecDepth 100000 in
theorem gd_X3_init : zgood mX3_init := ⟨zi_10 (List.mem_of_getElem? (i := 9) rfl), zi_4 (List.mem_of_getElem? (i := 11) rfl), by decide, by decide +kernel, by decide +kernel, by decide +kernel, by decide +kernel, Or.inr (Or.inr ⟨rfl, zi_10 (List.mem_of_getElem? (i := 8) rfl), rfl, rfl, by decide⟩)⟩
abbrev mX3_gives : ZM := (yX3_gives, cX3_gives, 7, (some .int), 1, 4, 3, 0, 0)
set_option maxRecDepth 100000 in
theorem gd_X3_gives : zgood mX3_gives := ⟨zi_26 (List.mem_of_getElem? (i := 2) rfl), zi_4 (List.mem_of_getElem? (i := 11) rfl), by decide, by decide +kernel, by decide +kernel, by decide +kernel, by decide +kernel, Or.inr (Or.inl ⟨rfl, zi_26 (List.mem_of_getElem? (i := 0) rfl), zi_26 (List.mem_of_getElem? (i := 1) rfl), rfl, by decide⟩)⟩
abbrev mX3_operand : ZM := (yX3_operand, cX3_operand, 4, (some .int), 0, 4, 3, 0, 0)
set_option maxRecDepth 100000 in
theorem gd_X3_operand : zgood mX3_operand := ⟨zi_26 (List.mem_of_getElem? (i := 5) rfl), zi_4 (List.mem_of_getElem? (i := 11) rfl), by decide, by decide +kernel, by decide +kernel, by decide +kernel, by decide +kernel, Or.inl ⟨rfl, zi_26 (List.mem_of_getElem? (i := 4) rfl)⟩⟩
abbrev mX3_joined : ZM := (yX3_joined, cX3_joined, 3, (some .int), 0, 3, 3, 0, 0)
set_option maxRecDepth 100000 in
theorem gd_X3_joined : zgood mX3_joined := ⟨zi_26 (List.mem_of_getElem? (i := 8) rfl), zi_4 (List.mem_of_getElem? (i := 11) rfl), by decide, by decide +kernel, by decide +kernel, by decide +kernel, by decide +kernel, Or.inl ⟨rfl, zi_26 (List.mem_of_getElem? (i := 7) rfl)⟩⟩
abbrev mX4_init : ZM := (yX4_init, cX4_init, 2, none, 2, 2, 4, 2, 52)
set_option maxRecDepth 100000 in
theorem gd_X4_init : zgood mX4_init := ⟨zi_15 (List.mem_of_getElem? (i := 15) rfl), zi_4 (List.mem_of_getElem? (i := 15) rfl), by decide, by decide +kernel, by decide +kernel, by decide +kernel, by decide +kernel, Or.inr (Or.inr ⟨rfl, zi_15 (List.mem_of_getElem? (i := 14) rfl), rfl, rfl, by decide⟩)⟩
abbrev mX4_read : ZM := (yX4_read, cX4_read, 2, (some .int), 1, 2, 4, 0, 0)
set_option maxRecDepth 100000 in
theorem gd_X4_read : zgood mX4_read := ⟨zi_30 (List.mem_of_getElem? (i := 0) rfl), zi_4 (List.mem_of_getElem? (i := 15) rfl), by decide, by decide +kernel, by decide +kernel, by decide +kernel, by decide +kernel, Or.inr (Or.inl ⟨rfl, zi_29 (List.mem_of_getElem? (i := 14) rfl), zi_29 (List.mem_of_getElem? (i := 15) rfl), rfl, by decide⟩)⟩
abbrev mX4_readLevel : ZM := (yX4_readLevel, cX4_readLevel, 6, none, 1, 3, 4, 0, 0)
set_option maxRecDepth 100000 in
theorem gd_X4_readLevel : zgood mX4_readLevel := ⟨zi_30 (List.mem_of_getElem? (i := 3) rfl), zi_4 (List.mem_of_getElem? (i := 15) rfl), by decide, by decide +kernel, by decide +kernel, by decide +kernel, by decide +kernel, Or.inr (Or.inl ⟨rfl, zi_30 (List.mem_of_getElem? (i := 2) rfl), zi_0 (List.mem_of_getElem? (i := 7) rfl), rfl, by decide⟩)⟩
abbrev mX4_readUnit : ZM := (yX4_readUnit, cX4_readUnit, 3, none, 1, 2, 4, 0, 0)
set_option maxRecDepth 100000 in
theorem gd_X4_readUnit : zgood mX4_readUnit := ⟨zi_30 (List.mem_of_getElem? (i := 6) rfl), zi_4 (List.mem_of_getElem? (i := 15) rfl), by decide, by decide +kernel, by decide +kernel, by decide +kernel, by decide +kernel, Or.inr (Or.inl ⟨rfl, zi_30 (List.mem_of_getElem? (i := 5) rfl), zi_0 (List.mem_of_getElem? (i := 8) rfl), rfl, by decide⟩)⟩
abbrev mX4_readNumber : ZM := (yX4_readNumber, cX4_readNumber, 3, none, 1, 1, 4, 0, 0)
set_option maxRecDepth 100000 in
theorem gd_X4_readNumber : zgood mX4_readNumber := ⟨zi_30 (List.mem_of_getElem? (i := 15) rfl), zi_4 (List.mem_of_getElem? (i := 15) rfl), by decide, by decide +kernel, by decide +kernel, by decide +kernel, by decide +kernel, Or.inr (Or.inl ⟨rfl, zi_30 (List.mem_of_getElem? (i := 14) rfl), zi_0 (List.mem_of_getElem? (i := 10) rfl), rfl, by decide⟩)⟩
abbrev mX4_readClosing : ZM := (yX4_readClosing, cX4_readClosing, 1, none, 1, 1, 4, 0, 0)
set_option maxRecDepth 100000 in
theorem gd_X4_readClosing : zgood mX4_readClosing := ⟨zi_31 (List.mem_of_getElem? (i := 7) rfl), zi_4 (List.mem_of_getElem? (i := 15) rfl), by decide, by decide +kernel, by decide +kernel, by decide +kernel, by decide +kernel, Or.inr (Or.inl ⟨rfl, zi_31 (List.mem_of_getElem? (i := 6) rfl), zi_0 (List.mem_of_getElem? (i := 12) rfl), rfl, by decide⟩)⟩
abbrev mX4_next : ZM := (yX4_next, cX4_next, 1, (some .int), 1, 1, 4, 0, 0)
set_option maxRecDepth 100000 in
theorem gd_X4_next : zgood mX4_next := ⟨zi_30 (List.mem_of_getElem? (i := 9) rfl), zi_4 (List.mem_of_getElem? (i := 15) rfl), by decide, by decide +kernel, by decide +kernel, by decide +kernel, by decide +kernel, Or.inr (Or.inl ⟨rfl, zi_30 (List.mem_of_getElem? (i := 8) rfl), zi_0 (List.mem_of_getElem? (i := 9) rfl), rfl, by decide⟩)⟩
abbrev mX4_failHere : ZM := (yX4_failHere, cX4_failHere, 1, none, 1, 1, 4, 0, 0)
set_option maxRecDepth 100000 in
theorem gd_X4_failHere : zgood mX4_failHere := ⟨zi_31 (List.mem_of_getElem? (i := 10) rfl), zi_4 (List.mem_of_getElem? (i := 15) rfl), by decide, by decide +kernel, by decide +kernel, by decide +kernel, by decide +kernel, Or.inr (Or.inl ⟨rfl, zi_31 (List.mem_of_getElem? (i := 9) rfl), zi_0 (List.mem_of_getElem? (i := 13) rfl), rfl, by decide⟩)⟩
abbrev mX4_isDigit : ZM := (yX4_isDigit, cX4_isDigit, 1, (some .boolean), 0, 1, 4, 0, 0)
set_option maxRecDepth 100000 in
theorem gd_X4_isDigit : zgood mX4_isDigit := ⟨zi_30 (List.mem_of_getElem? (i := 12) rfl), zi_4 (List.mem_of_getElem? (i := 15) rfl), by decide, by decide +kernel, by decide +kernel, by decide +kernel, by decide +kernel, Or.inl ⟨rfl, zi_30 (List.mem_of_getElem? (i := 11) rfl)⟩⟩
abbrev mX4_nameOf : ZM := (yX4_nameOf, cX4_nameOf, 3, (some .int), 1, 2, 4, 0, 0)
set_option maxRecDepth 100000 in
theorem gd_X4_nameOf : zgood mX4_nameOf := ⟨zi_31 (List.mem_of_getElem? (i := 3) rfl), zi_4 (List.mem_of_getElem? (i := 15) rfl), by decide, by decide +kernel, by decide +kernel, by decide +kernel, by decide +kernel, Or.inr (Or.inl ⟨rfl, zi_31 (List.mem_of_getElem? (i := 2) rfl), zi_0 (List.mem_of_getElem? (i := 11) rfl), rfl, by decide⟩)⟩
abbrev mX4_levelOf : ZM := (yX4_levelOf, cX4_levelOf, 1, (some .int), 0, 1, 4, 0, 0)
set_option maxRecDepth 100000 in
theorem gd_X4_levelOf : zgood mX4_levelOf := ⟨zi_31 (List.mem_of_getElem? (i := 13) rfl), zi_4 (List.mem_of_getElem? (i := 15) rfl), by decide, by decide +kernel, by decide +kernel, by decide +kernel, by decide +kernel, Or.inl ⟨rfl, zi_31 (List.mem_of_getElem? (i := 12) rfl)⟩⟩
abbrev mX5_init : ZM := (yX5_init, cX5_init, 2, none, 2, 2, 5, 1, 50)
set_option maxRecDepth 100000 in
theorem gd_X5_init : zgood mX5_init := ⟨zi_10 (List.mem_of_getElem? (i := 15) rfl), zi_4 (List.mem_of_getElem? (i := 12) rfl), by decide, by decide +kernel, by decide +kernel, by decide +kernel, by decide +kernel, Or.inr (Or.inr ⟨rfl, zi_10 (List.mem_of_getElem? (i := 14) rfl), rfl, rfl, by decide⟩)⟩
abbrev mX5_add : ZM := (yX5_add, cX5_add, 2, (some .boolean), 1, 2, 5, 0, 0)
set_option maxRecDepth 100000 in
theorem gd_X5_add : zgood mX5_add := ⟨zi_29 (List.mem_of_getElem? (i := 8) rfl), zi_4 (List.mem_of_getElem? (i := 12) rfl), by decide, by decide +kernel, by decide +kernel, by decide +kernel, by decide +kernel, Or.inr (Or.inl ⟨rfl, zi_29 (List.mem_of_getElem? (i := 6) rfl), zi_29 (List.mem_of_getElem? (i := 7) rfl), rfl, by decide⟩)⟩
abbrev mX5_copyFrom : ZM := (yX5_copyFrom, cX5_copyFrom, 2, none, 1, 2, 5, 0, 0)
set_option maxRecDepth 100000 in
theorem gd_X5_copyFrom : zgood mX5_copyFrom := ⟨zi_32 (List.mem_of_getElem? (i := 5) rfl), zi_4 (List.mem_of_getElem? (i := 12) rfl), by decide, by decide +kernel, by decide +kernel, by decide +kernel, by decide +kernel, Or.inr (Or.inl ⟨rfl, zi_32 (List.mem_of_getElem? (i := 3) rfl), zi_32 (List.mem_of_getElem? (i := 4) rfl), rfl, by decide⟩)⟩
abbrev mX6_init : ZM := (yX6_init, cX6_init, 1, none, 2, 1, 6, 24, 506)
set_option maxRecDepth 100000 in
theorem gd_X6_init : zgood mX6_init := ⟨zi_6 (List.mem_of_getElem? (i := 1) rfl), zi_4 (List.mem_of_getElem? (i := 8) rfl), by decide, by decide +kernel, by decide +kernel, by decide +kernel, by decide +kernel, Or.inr (Or.inr ⟨rfl, zi_6 (List.mem_of_getElem? (i := 0) rfl), rfl, rfl, by decide⟩)⟩
abbrev mX6_lawOf : ZM := (yX6_lawOf, cX6_lawOf, 2, (some (.object "TunnelHearsay$Law")), 1, 2, 6, 0, 0)
set_option maxRecDepth 100000 in
theorem gd_X6_lawOf : zgood mX6_lawOf := ⟨zi_32 (List.mem_of_getElem? (i := 1) rfl), zi_4 (List.mem_of_getElem? (i := 8) rfl), by decide, by decide +kernel, by decide +kernel, by decide +kernel, by decide +kernel, Or.inr (Or.inl ⟨rfl, zi_31 (List.mem_of_getElem? (i := 15) rfl), zi_32 (List.mem_of_getElem? (i := 0) rfl), rfl, by decide⟩)⟩
abbrev mX6_draw : ZM := (yX6_draw, cX6_draw, 1, (some .int), 1, 1, 6, 0, 0)
set_option maxRecDepth 100000 in
theorem gd_X6_draw : zgood mX6_draw := ⟨zi_35 (List.mem_of_getElem? (i := 4) rfl), zi_4 (List.mem_of_getElem? (i := 8) rfl), by decide, by decide +kernel, by decide +kernel, by decide +kernel, by decide +kernel, Or.inr (Or.inl ⟨rfl, zi_35 (List.mem_of_getElem? (i := 2) rfl), zi_35 (List.mem_of_getElem? (i := 3) rfl), rfl, by decide⟩)⟩
abbrev mX6_copyFrom : ZM := (yX6_copyFrom, cX6_copyFrom, 2, none, 1, 2, 6, 0, 0)
set_option maxRecDepth 100000 in
theorem gd_X6_copyFrom : zgood mX6_copyFrom := ⟨zi_46 (List.mem_of_getElem? (i := 7) rfl), zi_4 (List.mem_of_getElem? (i := 8) rfl), by decide, by decide +kernel, by decide +kernel, by decide +kernel, by decide +kernel, Or.inr (Or.inl ⟨rfl, zi_46 (List.mem_of_getElem? (i := 5) rfl), zi_46 (List.mem_of_getElem? (i := 6) rfl), rfl, by decide⟩)⟩
abbrev mX7_init : ZM := (yX7_init, cX7_init, 1, none, 2, 1, 7, 1, 40)
set_option maxRecDepth 100000 in
theorem gd_X7_init : zgood mX7_init := ⟨zi_18 (List.mem_of_getElem? (i := 15) rfl), zi_5 (List.mem_of_getElem? (i := 2) rfl), by decide, by decide +kernel, by decide +kernel, by decide +kernel, by decide +kernel, Or.inr (Or.inr ⟨rfl, zi_18 (List.mem_of_getElem? (i := 14) rfl), rfl, rfl, by decide⟩)⟩
abbrev mX7_begin : ZM := (yX7_begin, cX7_begin, 3, none, 1, 3, 7, 0, 0)
set_option maxRecDepth 100000 in
theorem gd_X7_begin : zgood mX7_begin := ⟨zi_44 (List.mem_of_getElem? (i := 4) rfl), zi_5 (List.mem_of_getElem? (i := 2) rfl), by decide, by decide +kernel, by decide +kernel, by decide +kernel, by decide +kernel, Or.inr (Or.inl ⟨rfl, zi_44 (List.mem_of_getElem? (i := 2) rfl), zi_44 (List.mem_of_getElem? (i := 3) rfl), rfl, by decide⟩)⟩
abbrev mX7_write : ZM := (yX7_write, cX7_write, 3, none, 1, 3, 7, 0, 0)
set_option maxRecDepth 100000 in
theorem gd_X7_write : zgood mX7_write := ⟨zi_44 (List.mem_of_getElem? (i := 13) rfl), zi_5 (List.mem_of_getElem? (i := 2) rfl), by decide, by decide +kernel, by decide +kernel, by decide +kernel, by decide +kernel, Or.inr (Or.inl ⟨rfl, zi_44 (List.mem_of_getElem? (i := 11) rfl), zi_44 (List.mem_of_getElem? (i := 12) rfl), rfl, by decide⟩)⟩
abbrev mX7_holds : ZM := (yX7_holds, cX7_holds, 3, (some .boolean), 1, 3, 7, 0, 0)
set_option maxRecDepth 100000 in
theorem gd_X7_holds : zgood mX7_holds := ⟨zi_45 (List.mem_of_getElem? (i := 5) rfl), zi_5 (List.mem_of_getElem? (i := 2) rfl), by decide, by decide +kernel, by decide +kernel, by decide +kernel, by decide +kernel, Or.inr (Or.inl ⟨rfl, zi_45 (List.mem_of_getElem? (i := 3) rfl), zi_45 (List.mem_of_getElem? (i := 4) rfl), rfl, by decide⟩)⟩
abbrev mX8_init : ZM := (yX8_init, cX8_init, 1, none, 2, 1, 8, 2, 52)
set_option maxRecDepth 100000 in
theorem gd_X8_init : zgood mX8_init := ⟨zi_17 (List.mem_of_getElem? (i := 15) rfl), zi_5 (List.mem_of_getElem? (i := 1) rfl), by decide, by decide +kernel, by decide +kernel, by decide +kernel, by decide +kernel, Or.inr (Or.inr ⟨rfl, zi_17 (List.mem_of_getElem? (i := 14) rfl), rfl, rfl, by decide⟩)⟩
abbrev mX8_speak : ZM := (yX8_speak, cX8_speak, 5, (some .int), 1, 5, 8, 0, 0)
set_option maxRecDepth 100000 in
theorem gd_X8_speak : zgood mX8_speak := ⟨zi_43 (List.mem_of_getElem? (i := 0) rfl), zi_5 (List.mem_of_getElem? (i := 1) rfl), by decide, by decide +kernel, by decide +kernel, by decide +kernel, by decide +kernel, Or.inr (Or.inl ⟨rfl, zi_42 (List.mem_of_getElem? (i := 14) rfl), zi_42 (List.mem_of_getElem? (i := 15) rfl), rfl, by decide⟩)⟩
abbrev mX8_say : ZM := (yX8_say, cX8_say, 8, (some .int), 1, 5, 8, 0, 0)
set_option maxRecDepth 100000 in
theorem gd_X8_say : zgood mX8_say := ⟨zi_43 (List.mem_of_getElem? (i := 3) rfl), zi_5 (List.mem_of_getElem? (i := 1) rfl), by decide, by decide +kernel, by decide +kernel, by decide +kernel, by decide +kernel, Or.inr (Or.inl ⟨rfl, zi_43 (List.mem_of_getElem? (i := 2) rfl), zi_1 (List.mem_of_getElem? (i := 6) rfl), rfl, by decide⟩)⟩
abbrev mX8_bodyOf : ZM := (yX8_bodyOf, cX8_bodyOf, 5, (some .int), 1, 5, 8, 0, 0)
set_option maxRecDepth 100000 in
theorem gd_X8_bodyOf : zgood mX8_bodyOf := ⟨zi_43 (List.mem_of_getElem? (i := 8) rfl), zi_5 (List.mem_of_getElem? (i := 1) rfl), by decide, by decide +kernel, by decide +kernel, by decide +kernel, by decide +kernel, Or.inr (Or.inl ⟨rfl, zi_43 (List.mem_of_getElem? (i := 7) rfl), zi_1 (List.mem_of_getElem? (i := 7) rfl), rfl, by decide⟩)⟩
abbrev mX9_init : ZM := (yX9_init, cX9_init, 2, none, 2, 2, 9, 3, 192)
set_option maxRecDepth 100000 in
theorem gd_X9_init : zgood mX9_init := ⟨zi_17 (List.mem_of_getElem? (i := 2) rfl), zi_5 (List.mem_of_getElem? (i := 0) rfl), by decide, by decide +kernel, by decide +kernel, by decide +kernel, by decide +kernel, Or.inr (Or.inr ⟨rfl, zi_17 (List.mem_of_getElem? (i := 1) rfl), rfl, rfl, by decide⟩)⟩
abbrev mX9_leastRock : ZM := (yX9_leastRock, cX9_leastRock, 7, (some .int), 1, 3, 9, 0, 0)
set_option maxRecDepth 100000 in
theorem gd_X9_leastRock : zgood mX9_leastRock := ⟨zi_39 (List.mem_of_getElem? (i := 1) rfl), zi_5 (List.mem_of_getElem? (i := 0) rfl), by decide, by decide +kernel, by decide +kernel, by decide +kernel, by decide +kernel, Or.inr (Or.inl ⟨rfl, zi_38 (List.mem_of_getElem? (i := 15) rfl), zi_39 (List.mem_of_getElem? (i := 0) rfl), rfl, by decide⟩)⟩
abbrev mX9_toll : ZM := (yX9_toll, cX9_toll, 2, (some .int), 1, 2, 9, 0, 0)
set_option maxRecDepth 100000 in
theorem gd_X9_toll : zgood mX9_toll := ⟨zi_39 (List.mem_of_getElem? (i := 6) rfl), zi_5 (List.mem_of_getElem? (i := 0) rfl), by decide, by decide +kernel, by decide +kernel, by decide +kernel, by decide +kernel, Or.inr (Or.inl ⟨rfl, zi_39 (List.mem_of_getElem? (i := 5) rfl), zi_1 (List.mem_of_getElem? (i := 1) rfl), rfl, by decide⟩)⟩
abbrev mX9_cheapest : ZM := (yX9_cheapest, cX9_cheapest, 4, (some .int), 1, 1, 9, 0, 0)
set_option maxRecDepth 100000 in
theorem gd_X9_cheapest : zgood mX9_cheapest := ⟨zi_39 (List.mem_of_getElem? (i := 9) rfl), zi_5 (List.mem_of_getElem? (i := 0) rfl), by decide, by decide +kernel, by decide +kernel, by decide +kernel, by decide +kernel, Or.inr (Or.inl ⟨rfl, zi_39 (List.mem_of_getElem? (i := 8) rfl), zi_1 (List.mem_of_getElem? (i := 2) rfl), rfl, by decide⟩)⟩
abbrev mX9_fewestWays : ZM := (yX9_fewestWays, cX9_fewestWays, 3, (some .int), 1, 3, 9, 0, 0)
set_option maxRecDepth 100000 in
theorem gd_X9_fewestWays : zgood mX9_fewestWays := ⟨zi_40 (List.mem_of_getElem? (i := 3) rfl), zi_5 (List.mem_of_getElem? (i := 0) rfl), by decide, by decide +kernel, by decide +kernel, by decide +kernel, by decide +kernel, Or.inr (Or.inl ⟨rfl, zi_40 (List.mem_of_getElem? (i := 1) rfl), zi_40 (List.mem_of_getElem? (i := 2) rfl), rfl, by decide⟩)⟩
abbrev mX9_partsDug : ZM := (yX9_partsDug, cX9_partsDug, 3, (some .int), 1, 1, 9, 0, 0)
set_option maxRecDepth 100000 in
theorem gd_X9_partsDug : zgood mX9_partsDug := ⟨zi_41 (List.mem_of_getElem? (i := 13) rfl), zi_5 (List.mem_of_getElem? (i := 0) rfl), by decide, by decide +kernel, by decide +kernel, by decide +kernel, by decide +kernel, Or.inr (Or.inl ⟨rfl, zi_41 (List.mem_of_getElem? (i := 11) rfl), zi_41 (List.mem_of_getElem? (i := 12) rfl), rfl, by decide⟩)⟩
abbrev mX9_flood : ZM := (yX9_flood, cX9_flood, 7, none, 1, 2, 9, 0, 0)
set_option maxRecDepth 100000 in
theorem gd_X9_flood : zgood mX9_flood := ⟨zi_40 (List.mem_of_getElem? (i := 6) rfl), zi_5 (List.mem_of_getElem? (i := 0) rfl), by decide, by decide +kernel, by decide +kernel, by decide +kernel, by decide +kernel, Or.inr (Or.inl ⟨rfl, zi_40 (List.mem_of_getElem? (i := 5) rfl), zi_1 (List.mem_of_getElem? (i := 3) rfl), rfl, by decide⟩)⟩
abbrev mX9_isDug : ZM := (yX9_isDug, cX9_isDug, 2, (some .boolean), 1, 2, 9, 0, 0)
set_option maxRecDepth 100000 in
theorem gd_X9_isDug : zgood mX9_isDug := ⟨zi_40 (List.mem_of_getElem? (i := 9) rfl), zi_5 (List.mem_of_getElem? (i := 0) rfl), by decide, by decide +kernel, by decide +kernel, by decide +kernel, by decide +kernel, Or.inr (Or.inl ⟨rfl, zi_40 (List.mem_of_getElem? (i := 8) rfl), zi_1 (List.mem_of_getElem? (i := 4) rfl), rfl, by decide⟩)⟩
abbrev mX9_alongLeft : ZM := (yX9_alongLeft, cX9_alongLeft, 8, (some .int), 1, 4, 9, 0, 0)
set_option maxRecDepth 100000 in
theorem gd_X9_alongLeft : zgood mX9_alongLeft := ⟨zi_41 (List.mem_of_getElem? (i := 2) rfl), zi_5 (List.mem_of_getElem? (i := 0) rfl), by decide, by decide +kernel, by decide +kernel, by decide +kernel, by decide +kernel, Or.inr (Or.inl ⟨rfl, zi_41 (List.mem_of_getElem? (i := 0) rfl), zi_41 (List.mem_of_getElem? (i := 1) rfl), rfl, by decide⟩)⟩
abbrev mX9_wayAlongLeft : ZM := (yX9_wayAlongLeft, cX9_wayAlongLeft, 5, (some .int), 1, 3, 9, 0, 0)
set_option maxRecDepth 100000 in
theorem gd_X9_wayAlongLeft : zgood mX9_wayAlongLeft := ⟨zi_41 (List.mem_of_getElem? (i := 5) rfl), zi_5 (List.mem_of_getElem? (i := 0) rfl), by decide, by decide +kernel, by decide +kernel, by decide +kernel, by decide +kernel, Or.inr (Or.inl ⟨rfl, zi_41 (List.mem_of_getElem? (i := 4) rfl), zi_1 (List.mem_of_getElem? (i := 5) rfl), rfl, by decide⟩)⟩
abbrev mX10_init : ZM := (yX10_init, cX10_init, 2, none, 2, 1, 10, 86, 1739)
set_option maxRecDepth 100000 in
theorem gd_X10_init : zgood mX10_init := ⟨zi_5 (List.mem_of_getElem? (i := 10) rfl), zi_4 (List.mem_of_getElem? (i := 7) rfl), by decide, by decide +kernel, by decide +kernel, by decide +kernel, by decide +kernel, Or.inr (Or.inr ⟨rfl, zi_5 (List.mem_of_getElem? (i := 9) rfl), rfl, rfl, by decide⟩)⟩
abbrev mX10_rock : ZM := (yX10_rock, cX10_rock, 4, (some .int), 1, 3, 10, 0, 0)
set_option maxRecDepth 100000 in
theorem gd_X10_rock : zgood mX10_rock := ⟨zi_21 (List.mem_of_getElem? (i := 1) rfl), zi_4 (List.mem_of_getElem? (i := 7) rfl), by decide, by decide +kernel, by decide +kernel, by decide +kernel, by decide +kernel, Or.inr (Or.inl ⟨rfl, zi_20 (List.mem_of_getElem? (i := 15) rfl), zi_21 (List.mem_of_getElem? (i := 0) rfl), rfl, by decide⟩)⟩
abbrev mX10_dig : ZM := (yX10_dig, cX10_dig, 4, (some .int), 1, 3, 10, 0, 0)
set_option maxRecDepth 100000 in
theorem gd_X10_dig : zgood mX10_dig := ⟨zi_21 (List.mem_of_getElem? (i := 13) rfl), zi_4 (List.mem_of_getElem? (i := 7) rfl), by decide, by decide +kernel, by decide +kernel, by decide +kernel, by decide +kernel, Or.inr (Or.inl ⟨rfl, zi_21 (List.mem_of_getElem? (i := 11) rfl), zi_21 (List.mem_of_getElem? (i := 12) rfl), rfl, by decide⟩)⟩
abbrev mX10_ofCell : ZM := (yX10_ofCell, cX10_ofCell, 3, (some .int), 1, 3, 10, 0, 0)
set_option maxRecDepth 100000 in
theorem gd_X10_ofCell : zgood mX10_ofCell := ⟨zi_22 (List.mem_of_getElem? (i := 6) rfl), zi_4 (List.mem_of_getElem? (i := 7) rfl), by decide, by decide +kernel, by decide +kernel, by decide +kernel, by decide +kernel, Or.inr (Or.inl ⟨rfl, zi_22 (List.mem_of_getElem? (i := 4) rfl), zi_22 (List.mem_of_getElem? (i := 5) rfl), rfl, by decide⟩)⟩
abbrev mX10_head : ZM := (yX10_head, cX10_head, 6, (some .int), 1, 4, 10, 0, 0)
set_option maxRecDepth 100000 in
theorem gd_X10_head : zgood mX10_head := ⟨zi_22 (List.mem_of_getElem? (i := 10) rfl), zi_4 (List.mem_of_getElem? (i := 7) rfl), by decide, by decide +kernel, by decide +kernel, by decide +kernel, by decide +kernel, Or.inr (Or.inl ⟨rfl, zi_22 (List.mem_of_getElem? (i := 8) rfl), zi_22 (List.mem_of_getElem? (i := 9) rfl), rfl, by decide⟩)⟩
abbrev mX10_mostOfHead : ZM := (yX10_mostOfHead, cX10_mostOfHead, 1, (some .int), 0, 1, 10, 0, 0)
set_option maxRecDepth 100000 in
theorem gd_X10_mostOfHead : zgood mX10_mostOfHead := ⟨zi_22 (List.mem_of_getElem? (i := 13) rfl), zi_4 (List.mem_of_getElem? (i := 7) rfl), by decide, by decide +kernel, by decide +kernel, by decide +kernel, by decide +kernel, Or.inl ⟨rfl, zi_22 (List.mem_of_getElem? (i := 12) rfl)⟩⟩
abbrev mX10_ofHead : ZM := (yX10_ofHead, cX10_ofHead, 3, (some .int), 1, 3, 10, 0, 0)
set_option maxRecDepth 100000 in
theorem gd_X10_ofHead : zgood mX10_ofHead := ⟨zi_23 (List.mem_of_getElem? (i := 2) rfl), zi_4 (List.mem_of_getElem? (i := 7) rfl), by decide, by decide +kernel, by decide +kernel, by decide +kernel, by decide +kernel, Or.inr (Or.inl ⟨rfl, zi_23 (List.mem_of_getElem? (i := 0) rfl), zi_23 (List.mem_of_getElem? (i := 1) rfl), rfl, by decide⟩)⟩
abbrev mX10_delay : ZM := (yX10_delay, cX10_delay, 3, (some .int), 1, 2, 10, 0, 0)
set_option maxRecDepth 100000 in
theorem gd_X10_delay : zgood mX10_delay := ⟨zi_27 (List.mem_of_getElem? (i := 1) rfl), zi_4 (List.mem_of_getElem? (i := 7) rfl), by decide, by decide +kernel, by decide +kernel, by decide +kernel, by decide +kernel, Or.inr (Or.inl ⟨rfl, zi_26 (List.mem_of_getElem? (i := 15) rfl), zi_27 (List.mem_of_getElem? (i := 0) rfl), rfl, by decide⟩)⟩
abbrev mX10_engineer : ZM := (yX10_engineer, cX10_engineer, 4, (some .int), 1, 3, 10, 0, 0)
set_option maxRecDepth 100000 in
theorem gd_X10_engineer : zgood mX10_engineer := ⟨zi_27 (List.mem_of_getElem? (i := 5) rfl), zi_4 (List.mem_of_getElem? (i := 7) rfl), by decide, by decide +kernel, by decide +kernel, by decide +kernel, by decide +kernel, Or.inr (Or.inl ⟨rfl, zi_27 (List.mem_of_getElem? (i := 3) rfl), zi_27 (List.mem_of_getElem? (i := 4) rfl), rfl, by decide⟩)⟩
abbrev mX10_ofEngineer : ZM := (yX10_ofEngineer, cX10_ofEngineer, 3, (some .int), 1, 3, 10, 0, 0)
set_option maxRecDepth 100000 in
theorem gd_X10_ofEngineer : zgood mX10_ofEngineer := ⟨zi_27 (List.mem_of_getElem? (i := 10) rfl), zi_4 (List.mem_of_getElem? (i := 7) rfl), by decide, by decide +kernel, by decide +kernel, by decide +kernel, by decide +kernel, Or.inr (Or.inl ⟨rfl, zi_27 (List.mem_of_getElem? (i := 8) rfl), zi_27 (List.mem_of_getElem? (i := 9) rfl), rfl, by decide⟩)⟩
abbrev mX10_change : ZM := (yX10_change, cX10_change, 4, (some .int), 1, 3, 10, 0, 0)
set_option maxRecDepth 100000 in
theorem gd_X10_change : zgood mX10_change := ⟨zi_28 (List.mem_of_getElem? (i := 4) rfl), zi_4 (List.mem_of_getElem? (i := 7) rfl), by decide, by decide +kernel, by decide +kernel, by decide +kernel, by decide +kernel, Or.inr (Or.inl ⟨rfl, zi_28 (List.mem_of_getElem? (i := 2) rfl), zi_28 (List.mem_of_getElem? (i := 3) rfl), rfl, by decide⟩)⟩
abbrev mX10_become : ZM := (yX10_become, cX10_become, 4, (some .int), 1, 3, 10, 0, 0)
set_option maxRecDepth 100000 in
theorem gd_X10_become : zgood mX10_become := ⟨zi_28 (List.mem_of_getElem? (i := 8) rfl), zi_4 (List.mem_of_getElem? (i := 7) rfl), by decide, by decide +kernel, by decide +kernel, by decide +kernel, by decide +kernel, Or.inr (Or.inl ⟨rfl, zi_28 (List.mem_of_getElem? (i := 6) rfl), zi_28 (List.mem_of_getElem? (i := 7) rfl), rfl, by decide⟩)⟩
abbrev mX10_as : ZM := (yX10_as, cX10_as, 3, (some .int), 1, 3, 10, 0, 0)
set_option maxRecDepth 100000 in
theorem gd_X10_as : zgood mX10_as := ⟨zi_28 (List.mem_of_getElem? (i := 12) rfl), zi_4 (List.mem_of_getElem? (i := 7) rfl), by decide, by decide +kernel, by decide +kernel, by decide +kernel, by decide +kernel, Or.inr (Or.inl ⟨rfl, zi_28 (List.mem_of_getElem? (i := 10) rfl), zi_28 (List.mem_of_getElem? (i := 11) rfl), rfl, by decide⟩)⟩
abbrev mX10_feed : ZM := (yX10_feed, cX10_feed, 5, (some .int), 1, 3, 10, 0, 0)
set_option maxRecDepth 100000 in
theorem gd_X10_feed : zgood mX10_feed := ⟨zi_29 (List.mem_of_getElem? (i := 4) rfl), zi_4 (List.mem_of_getElem? (i := 7) rfl), by decide, by decide +kernel, by decide +kernel, by decide +kernel, by decide +kernel, Or.inr (Or.inl ⟨rfl, zi_29 (List.mem_of_getElem? (i := 2) rfl), zi_29 (List.mem_of_getElem? (i := 3) rfl), rfl, by decide⟩)⟩
abbrev mX10_text : ZM := (yX10_text, cX10_text, 3, (some .int), 1, 2, 10, 0, 0)
set_option maxRecDepth 100000 in
theorem gd_X10_text : zgood mX10_text := ⟨zi_29 (List.mem_of_getElem? (i := 12) rfl), zi_4 (List.mem_of_getElem? (i := 7) rfl), by decide, by decide +kernel, by decide +kernel, by decide +kernel, by decide +kernel, Or.inr (Or.inl ⟨rfl, zi_29 (List.mem_of_getElem? (i := 10) rfl), zi_29 (List.mem_of_getElem? (i := 11) rfl), rfl, by decide⟩)⟩
abbrev mX10_law : ZM := (yX10_law, cX10_law, 5, (some .int), 1, 5, 10, 0, 0)
set_option maxRecDepth 100000 in
theorem gd_X10_law : zgood mX10_law := ⟨zi_32 (List.mem_of_getElem? (i := 13) rfl), zi_4 (List.mem_of_getElem? (i := 7) rfl), by decide, by decide +kernel, by decide +kernel, by decide +kernel, by decide +kernel, Or.inr (Or.inl ⟨rfl, zi_32 (List.mem_of_getElem? (i := 11) rfl), zi_32 (List.mem_of_getElem? (i := 12) rfl), rfl, by decide⟩)⟩
abbrev mX10_years : ZM := (yX10_years, cX10_years, 3, (some .int), 1, 2, 10, 0, 0)
set_option maxRecDepth 100000 in
theorem gd_X10_years : zgood mX10_years := ⟨zi_33 (List.mem_of_getElem? (i := 2) rfl), zi_4 (List.mem_of_getElem? (i := 7) rfl), by decide, by decide +kernel, by decide +kernel, by decide +kernel, by decide +kernel, Or.inr (Or.inl ⟨rfl, zi_33 (List.mem_of_getElem? (i := 0) rfl), zi_33 (List.mem_of_getElem? (i := 1) rfl), rfl, by decide⟩)⟩
abbrev mX10_loose : ZM := (yX10_loose, cX10_loose, 4, (some .int), 1, 2, 10, 0, 0)
set_option maxRecDepth 100000 in
theorem gd_X10_loose : zgood mX10_loose := ⟨zi_35 (List.mem_of_getElem? (i := 0) rfl), zi_4 (List.mem_of_getElem? (i := 7) rfl), by decide, by decide +kernel, by decide +kernel, by decide +kernel, by decide +kernel, Or.inr (Or.inl ⟨rfl, zi_34 (List.mem_of_getElem? (i := 14) rfl), zi_34 (List.mem_of_getElem? (i := 15) rfl), rfl, by decide⟩)⟩
abbrev mX10_then : ZM := (yX10_then, cX10_then, 4, (some .int), 1, 4, 10, 0, 0)
set_option maxRecDepth 100000 in
theorem gd_X10_then : zgood mX10_then := ⟨zi_35 (List.mem_of_getElem? (i := 9) rfl), zi_4 (List.mem_of_getElem? (i := 7) rfl), by decide, by decide +kernel, by decide +kernel, by decide +kernel, by decide +kernel, Or.inr (Or.inl ⟨rfl, zi_35 (List.mem_of_getElem? (i := 7) rfl), zi_35 (List.mem_of_getElem? (i := 8) rfl), rfl, by decide⟩)⟩
abbrev mX10_meets : ZM := (yX10_meets, cX10_meets, 2, (some .int), 1, 1, 10, 0, 0)
set_option maxRecDepth 100000 in
theorem gd_X10_meets : zgood mX10_meets := ⟨zi_36 (List.mem_of_getElem? (i := 13) rfl), zi_4 (List.mem_of_getElem? (i := 7) rfl), by decide, by decide +kernel, by decide +kernel, by decide +kernel, by decide +kernel, Or.inr (Or.inl ⟨rfl, zi_36 (List.mem_of_getElem? (i := 11) rfl), zi_36 (List.mem_of_getElem? (i := 12) rfl), rfl, by decide⟩)⟩
abbrev mX10_apart : ZM := (yX10_apart, cX10_apart, 2, (some .int), 1, 2, 10, 0, 0)
set_option maxRecDepth 100000 in
theorem gd_X10_apart : zgood mX10_apart := ⟨zi_37 (List.mem_of_getElem? (i := 2) rfl), zi_4 (List.mem_of_getElem? (i := 7) rfl), by decide, by decide +kernel, by decide +kernel, by decide +kernel, by decide +kernel, Or.inr (Or.inl ⟨rfl, zi_37 (List.mem_of_getElem? (i := 0) rfl), zi_37 (List.mem_of_getElem? (i := 1) rfl), rfl, by decide⟩)⟩
abbrev mX10_delayFor : ZM := (yX10_delayFor, cX10_delayFor, 6, (some .int), 1, 2, 10, 0, 0)
set_option maxRecDepth 100000 in
theorem gd_X10_delayFor : zgood mX10_delayFor := ⟨zi_37 (List.mem_of_getElem? (i := 6) rfl), zi_4 (List.mem_of_getElem? (i := 7) rfl), by decide, by decide +kernel, by decide +kernel, by decide +kernel, by decide +kernel, Or.inr (Or.inl ⟨rfl, zi_37 (List.mem_of_getElem? (i := 4) rfl), zi_37 (List.mem_of_getElem? (i := 5) rfl), rfl, by decide⟩)⟩
abbrev mX10_powerFor : ZM := (yX10_powerFor, cX10_powerFor, 5, (some .int), 1, 4, 10, 0, 0)
set_option maxRecDepth 100000 in
theorem gd_X10_powerFor : zgood mX10_powerFor := ⟨zi_37 (List.mem_of_getElem? (i := 10) rfl), zi_4 (List.mem_of_getElem? (i := 7) rfl), by decide, by decide +kernel, by decide +kernel, by decide +kernel, by decide +kernel, Or.inr (Or.inl ⟨rfl, zi_37 (List.mem_of_getElem? (i := 8) rfl), zi_37 (List.mem_of_getElem? (i := 9) rfl), rfl, by decide⟩)⟩
abbrev mX10_needless : ZM := (yX10_needless, cX10_needless, 5, (some .int), 1, 2, 10, 0, 0)
set_option maxRecDepth 100000 in
theorem gd_X10_needless : zgood mX10_needless := ⟨zi_37 (List.mem_of_getElem? (i := 14) rfl), zi_4 (List.mem_of_getElem? (i := 7) rfl), by decide, by decide +kernel, by decide +kernel, by decide +kernel, by decide +kernel, Or.inr (Or.inl ⟨rfl, zi_37 (List.mem_of_getElem? (i := 12) rfl), zi_37 (List.mem_of_getElem? (i := 13) rfl), rfl, by decide⟩)⟩
abbrev mX10_heard : ZM := (yX10_heard, cX10_heard, 7, (some .int), 1, 4, 10, 0, 0)
set_option maxRecDepth 100000 in
theorem gd_X10_heard : zgood mX10_heard := ⟨zi_38 (List.mem_of_getElem? (i := 2) rfl), zi_4 (List.mem_of_getElem? (i := 7) rfl), by decide, by decide +kernel, by decide +kernel, by decide +kernel, by decide +kernel, Or.inr (Or.inl ⟨rfl, zi_38 (List.mem_of_getElem? (i := 0) rfl), zi_38 (List.mem_of_getElem? (i := 1) rfl), rfl, by decide⟩)⟩
abbrev mX10_which : ZM := (yX10_which, cX10_which, 5, (some .int), 1, 3, 10, 0, 0)
set_option maxRecDepth 100000 in
theorem gd_X10_which : zgood mX10_which := ⟨zi_38 (List.mem_of_getElem? (i := 9) rfl), zi_4 (List.mem_of_getElem? (i := 7) rfl), by decide, by decide +kernel, by decide +kernel, by decide +kernel, by decide +kernel, Or.inr (Or.inl ⟨rfl, zi_38 (List.mem_of_getElem? (i := 7) rfl), zi_38 (List.mem_of_getElem? (i := 8) rfl), rfl, by decide⟩)⟩
abbrev mX10_join : ZM := (yX10_join, cX10_join, 3, (some .int), 1, 3, 10, 0, 0)
set_option maxRecDepth 100000 in
theorem gd_X10_join : zgood mX10_join := ⟨zi_38 (List.mem_of_getElem? (i := 13) rfl), zi_4 (List.mem_of_getElem? (i := 7) rfl), by decide, by decide +kernel, by decide +kernel, by decide +kernel, by decide +kernel, Or.inr (Or.inl ⟨rfl, zi_38 (List.mem_of_getElem? (i := 11) rfl), zi_38 (List.mem_of_getElem? (i := 12) rfl), rfl, by decide⟩)⟩
abbrev mX10_steps : ZM := (yX10_steps, cX10_steps, 4, (some .int), 1, 3, 10, 0, 0)
set_option maxRecDepth 100000 in
theorem gd_X10_steps : zgood mX10_steps := ⟨zi_39 (List.mem_of_getElem? (i := 15) rfl), zi_4 (List.mem_of_getElem? (i := 7) rfl), by decide, by decide +kernel, by decide +kernel, by decide +kernel, by decide +kernel, Or.inr (Or.inl ⟨rfl, zi_39 (List.mem_of_getElem? (i := 13) rfl), zi_39 (List.mem_of_getElem? (i := 14) rfl), rfl, by decide⟩)⟩
abbrev mX10_hand : ZM := (yX10_hand, cX10_hand, 4, (some .int), 1, 4, 10, 0, 0)
set_option maxRecDepth 100000 in
theorem gd_X10_hand : zgood mX10_hand := ⟨zi_40 (List.mem_of_getElem? (i := 14) rfl), zi_4 (List.mem_of_getElem? (i := 7) rfl), by decide, by decide +kernel, by decide +kernel, by decide +kernel, by decide +kernel, Or.inr (Or.inl ⟨rfl, zi_40 (List.mem_of_getElem? (i := 12) rfl), zi_40 (List.mem_of_getElem? (i := 13) rfl), rfl, by decide⟩)⟩
abbrev mX10_parts : ZM := (yX10_parts, cX10_parts, 1, (some .int), 1, 1, 10, 0, 0)
set_option maxRecDepth 100000 in
theorem gd_X10_parts : zgood mX10_parts := ⟨zi_41 (List.mem_of_getElem? (i := 9) rfl), zi_4 (List.mem_of_getElem? (i := 7) rfl), by decide, by decide +kernel, by decide +kernel, by decide +kernel, by decide +kernel, Or.inr (Or.inl ⟨rfl, zi_41 (List.mem_of_getElem? (i := 7) rfl), zi_41 (List.mem_of_getElem? (i := 8) rfl), rfl, by decide⟩)⟩
abbrev mX10_odds : ZM := (yX10_odds, cX10_odds, 7, (some .int), 1, 4, 10, 0, 0)
set_option maxRecDepth 100000 in
theorem gd_X10_odds : zgood mX10_odds := ⟨zi_42 (List.mem_of_getElem? (i := 1) rfl), zi_4 (List.mem_of_getElem? (i := 7) rfl), by decide, by decide +kernel, by decide +kernel, by decide +kernel, by decide +kernel, Or.inr (Or.inl ⟨rfl, zi_41 (List.mem_of_getElem? (i := 15) rfl), zi_42 (List.mem_of_getElem? (i := 0) rfl), rfl, by decide⟩)⟩
abbrev mX10_seed : ZM := (yX10_seed, cX10_seed, 3, (some .int), 1, 2, 10, 0, 0)
set_option maxRecDepth 100000 in
theorem gd_X10_seed : zgood mX10_seed := ⟨zi_42 (List.mem_of_getElem? (i := 8) rfl), zi_4 (List.mem_of_getElem? (i := 7) rfl), by decide, by decide +kernel, by decide +kernel, by decide +kernel, by decide +kernel, Or.inr (Or.inl ⟨rfl, zi_42 (List.mem_of_getElem? (i := 6) rfl), zi_42 (List.mem_of_getElem? (i := 7) rfl), rfl, by decide⟩)⟩
abbrev mX10_voice : ZM := (yX10_voice, cX10_voice, 4, (some .int), 1, 4, 10, 0, 0)
set_option maxRecDepth 100000 in
theorem gd_X10_voice : zgood mX10_voice := ⟨zi_42 (List.mem_of_getElem? (i := 12) rfl), zi_4 (List.mem_of_getElem? (i := 7) rfl), by decide, by decide +kernel, by decide +kernel, by decide +kernel, by decide +kernel, Or.inr (Or.inl ⟨rfl, zi_42 (List.mem_of_getElem? (i := 10) rfl), zi_42 (List.mem_of_getElem? (i := 11) rfl), rfl, by decide⟩)⟩
abbrev mX10_trace : ZM := (yX10_trace, cX10_trace, 2, (some .int), 1, 2, 10, 0, 0)
set_option maxRecDepth 100000 in
theorem gd_X10_trace : zgood mX10_trace := ⟨zi_43 (List.mem_of_getElem? (i := 12) rfl), zi_4 (List.mem_of_getElem? (i := 7) rfl), by decide, by decide +kernel, by decide +kernel, by decide +kernel, by decide +kernel, Or.inr (Or.inl ⟨rfl, zi_43 (List.mem_of_getElem? (i := 10) rfl), zi_43 (List.mem_of_getElem? (i := 11) rfl), rfl, by decide⟩)⟩
abbrev mX10_sheet : ZM := (yX10_sheet, cX10_sheet, 4, (some .int), 1, 4, 10, 0, 0)
set_option maxRecDepth 100000 in
theorem gd_X10_sheet : zgood mX10_sheet := ⟨zi_44 (List.mem_of_getElem? (i := 0) rfl), zi_4 (List.mem_of_getElem? (i := 7) rfl), by decide, by decide +kernel, by decide +kernel, by decide +kernel, by decide +kernel, Or.inr (Or.inl ⟨rfl, zi_43 (List.mem_of_getElem? (i := 14) rfl), zi_43 (List.mem_of_getElem? (i := 15) rfl), rfl, by decide⟩)⟩
abbrev mX10_put : ZM := (yX10_put, cX10_put, 4, (some .int), 1, 4, 10, 0, 0)
set_option maxRecDepth 100000 in
theorem gd_X10_put : zgood mX10_put := ⟨zi_44 (List.mem_of_getElem? (i := 9) rfl), zi_4 (List.mem_of_getElem? (i := 7) rfl), by decide, by decide +kernel, by decide +kernel, by decide +kernel, by decide +kernel, Or.inr (Or.inl ⟨rfl, zi_44 (List.mem_of_getElem? (i := 7) rfl), zi_44 (List.mem_of_getElem? (i := 8) rfl), rfl, by decide⟩)⟩
abbrev mX10_move : ZM := (yX10_move, cX10_move, 8, (some .int), 1, 6, 10, 0, 0)
set_option maxRecDepth 100000 in
theorem gd_X10_move : zgood mX10_move := ⟨zi_45 (List.mem_of_getElem? (i := 1) rfl), zi_4 (List.mem_of_getElem? (i := 7) rfl), by decide, by decide +kernel, by decide +kernel, by decide +kernel, by decide +kernel, Or.inr (Or.inl ⟨rfl, zi_44 (List.mem_of_getElem? (i := 15) rfl), zi_45 (List.mem_of_getElem? (i := 0) rfl), rfl, by decide⟩)⟩
abbrev mX10_rocks : ZM := (yX10_rocks, cX10_rocks, 4, (some .int), 1, 2, 10, 0, 0)
set_option maxRecDepth 100000 in
theorem gd_X10_rocks : zgood mX10_rocks := ⟨zi_45 (List.mem_of_getElem? (i := 10) rfl), zi_4 (List.mem_of_getElem? (i := 7) rfl), by decide, by decide +kernel, by decide +kernel, by decide +kernel, by decide +kernel, Or.inr (Or.inl ⟨rfl, zi_45 (List.mem_of_getElem? (i := 8) rfl), zi_45 (List.mem_of_getElem? (i := 9) rfl), rfl, by decide⟩)⟩
abbrev mX10_judge : ZM := (yX10_judge, cX10_judge, 5, (some .int), 1, 2, 10, 0, 0)
set_option maxRecDepth 100000 in
theorem gd_X10_judge : zgood mX10_judge := ⟨zi_45 (List.mem_of_getElem? (i := 14) rfl), zi_4 (List.mem_of_getElem? (i := 7) rfl), by decide, by decide +kernel, by decide +kernel, by decide +kernel, by decide +kernel, Or.inr (Or.inl ⟨rfl, zi_45 (List.mem_of_getElem? (i := 12) rfl), zi_45 (List.mem_of_getElem? (i := 13) rfl), rfl, by decide⟩)⟩
abbrev mX10_image : ZM := (yX10_image, cX10_image, 1, (some .int), 1, 1, 10, 0, 0)
set_option maxRecDepth 100000 in
theorem gd_X10_image : zgood mX10_image := ⟨zi_46 (List.mem_of_getElem? (i := 3) rfl), zi_4 (List.mem_of_getElem? (i := 7) rfl), by decide, by decide +kernel, by decide +kernel, by decide +kernel, by decide +kernel, Or.inr (Or.inl ⟨rfl, zi_46 (List.mem_of_getElem? (i := 1) rfl), zi_46 (List.mem_of_getElem? (i := 2) rfl), rfl, by decide⟩)⟩
abbrev mX10_restore : ZM := (yX10_restore, cX10_restore, 1, (some .int), 1, 1, 10, 0, 0)
set_option maxRecDepth 100000 in
theorem gd_X10_restore : zgood mX10_restore := ⟨zi_46 (List.mem_of_getElem? (i := 14) rfl), zi_4 (List.mem_of_getElem? (i := 7) rfl), by decide, by decide +kernel, by decide +kernel, by decide +kernel, by decide +kernel, Or.inr (Or.inl ⟨rfl, zi_46 (List.mem_of_getElem? (i := 12) rfl), zi_46 (List.mem_of_getElem? (i := 13) rfl), rfl, by decide⟩)⟩
abbrev mX10_tell : ZM := (yX10_tell, cX10_tell, 2, (some .int), 1, 2, 10, 0, 0)
set_option maxRecDepth 100000 in
theorem gd_X10_tell : zgood mX10_tell := ⟨zi_47 (List.mem_of_getElem? (i := 2) rfl), zi_4 (List.mem_of_getElem? (i := 7) rfl), by decide, by decide +kernel, by decide +kernel, by decide +kernel, by decide +kernel, Or.inr (Or.inl ⟨rfl, zi_47 (List.mem_of_getElem? (i := 0) rfl), zi_47 (List.mem_of_getElem? (i := 1) rfl), rfl, by decide⟩)⟩
abbrev mX10_check : ZM := (yX10_check, cX10_check, 3, (some .int), 1, 1, 10, 0, 0)
set_option maxRecDepth 100000 in
theorem gd_X10_check : zgood mX10_check := ⟨zi_47 (List.mem_of_getElem? (i := 6) rfl), zi_4 (List.mem_of_getElem? (i := 7) rfl), by decide, by decide +kernel, by decide +kernel, by decide +kernel, by decide +kernel, Or.inr (Or.inl ⟨rfl, zi_47 (List.mem_of_getElem? (i := 4) rfl), zi_47 (List.mem_of_getElem? (i := 5) rfl), rfl, by decide⟩)⟩
abbrev mX10_count : ZM := (yX10_count, cX10_count, 2, (some .int), 1, 2, 10, 0, 0)
set_option maxRecDepth 100000 in
theorem gd_X10_count : zgood mX10_count := ⟨zi_47 (List.mem_of_getElem? (i := 10) rfl), zi_4 (List.mem_of_getElem? (i := 7) rfl), by decide, by decide +kernel, by decide +kernel, by decide +kernel, by decide +kernel, Or.inr (Or.inl ⟨rfl, zi_47 (List.mem_of_getElem? (i := 8) rfl), zi_47 (List.mem_of_getElem? (i := 9) rfl), rfl, by decide⟩)⟩
abbrev mX10_told : ZM := (yX10_told, cX10_told, 2, (some .int), 1, 2, 10, 0, 0)
set_option maxRecDepth 100000 in
theorem gd_X10_told : zgood mX10_told := ⟨zi_48 (List.mem_of_getElem? (i := 1) rfl), zi_4 (List.mem_of_getElem? (i := 7) rfl), by decide, by decide +kernel, by decide +kernel, by decide +kernel, by decide +kernel, Or.inr (Or.inl ⟨rfl, zi_47 (List.mem_of_getElem? (i := 15) rfl), zi_48 (List.mem_of_getElem? (i := 0) rfl), rfl, by decide⟩)⟩
abbrev mX10_failed : ZM := (yX10_failed, cX10_failed, 2, (some .int), 1, 2, 10, 0, 0)
set_option maxRecDepth 100000 in
theorem gd_X10_failed : zgood mX10_failed := ⟨zi_21 (List.mem_of_getElem? (i := 8) rfl), zi_4 (List.mem_of_getElem? (i := 7) rfl), by decide, by decide +kernel, by decide +kernel, by decide +kernel, by decide +kernel, Or.inr (Or.inl ⟨rfl, zi_21 (List.mem_of_getElem? (i := 7) rfl), zi_0 (List.mem_of_getElem? (i := 0) rfl), rfl, by decide⟩)⟩
abbrev mX10_isBeyond : ZM := (yX10_isBeyond, cX10_isBeyond, 2, (some .boolean), 0, 2, 10, 0, 0)
set_option maxRecDepth 100000 in
theorem gd_X10_isBeyond : zgood mX10_isBeyond := ⟨zi_21 (List.mem_of_getElem? (i := 4) rfl), zi_4 (List.mem_of_getElem? (i := 7) rfl), by decide, by decide +kernel, by decide +kernel, by decide +kernel, by decide +kernel, Or.inl ⟨rfl, zi_21 (List.mem_of_getElem? (i := 3) rfl)⟩⟩
abbrev mX10_isNobody : ZM := (yX10_isNobody, cX10_isNobody, 2, (some .boolean), 1, 2, 10, 0, 0)
set_option maxRecDepth 100000 in
theorem gd_X10_isNobody : zgood mX10_isNobody := ⟨zi_27 (List.mem_of_getElem? (i := 13) rfl), zi_4 (List.mem_of_getElem? (i := 7) rfl), by decide, by decide +kernel, by decide +kernel, by decide +kernel, by decide +kernel, Or.inr (Or.inl ⟨rfl, zi_27 (List.mem_of_getElem? (i := 12) rfl), zi_0 (List.mem_of_getElem? (i := 6) rfl), rfl, by decide⟩)⟩
abbrev mX10_think : ZM := (yX10_think, cX10_think, 1, none, 1, 1, 10, 0, 0)
set_option maxRecDepth 100000 in
theorem gd_X10_think : zgood mX10_think := ⟨zi_35 (List.mem_of_getElem? (i := 12) rfl), zi_4 (List.mem_of_getElem? (i := 7) rfl), by decide, by decide +kernel, by decide +kernel, by decide +kernel, by decide +kernel, Or.inr (Or.inl ⟨rfl, zi_35 (List.mem_of_getElem? (i := 11) rfl), zi_0 (List.mem_of_getElem? (i := 14) rfl), rfl, by decide⟩)⟩
abbrev mX10_gapBehind : ZM := (yX10_gapBehind, cX10_gapBehind, 3, (some .int), 1, 2, 10, 0, 0)
set_option maxRecDepth 100000 in
theorem gd_X10_gapBehind : zgood mX10_gapBehind := ⟨zi_36 (List.mem_of_getElem? (i := 9) rfl), zi_4 (List.mem_of_getElem? (i := 7) rfl), by decide, by decide +kernel, by decide +kernel, by decide +kernel, by decide +kernel, Or.inr (Or.inl ⟨rfl, zi_36 (List.mem_of_getElem? (i := 8) rfl), zi_0 (List.mem_of_getElem? (i := 15) rfl), rfl, by decide⟩)⟩
abbrev mX10_goesAsTold : ZM := (yX10_goesAsTold, cX10_goesAsTold, 4, (some .boolean), 1, 3, 10, 0, 0)
set_option maxRecDepth 100000 in
theorem gd_X10_goesAsTold : zgood mX10_goesAsTold := ⟨zi_38 (List.mem_of_getElem? (i := 5) rfl), zi_4 (List.mem_of_getElem? (i := 7) rfl), by decide, by decide +kernel, by decide +kernel, by decide +kernel, by decide +kernel, Or.inr (Or.inl ⟨rfl, zi_38 (List.mem_of_getElem? (i := 4) rfl), zi_1 (List.mem_of_getElem? (i := 0) rfl), rfl, by decide⟩)⟩
abbrev mX10_sharedFactor : ZM := (yX10_sharedFactor, cX10_sharedFactor, 3, (some .int), 0, 2, 10, 0, 0)
set_option maxRecDepth 100000 in
theorem gd_X10_sharedFactor : zgood mX10_sharedFactor := ⟨zi_42 (List.mem_of_getElem? (i := 4) rfl), zi_4 (List.mem_of_getElem? (i := 7) rfl), by decide, by decide +kernel, by decide +kernel, by decide +kernel, by decide +kernel, Or.inl ⟨rfl, zi_42 (List.mem_of_getElem? (i := 3) rfl)⟩⟩
abbrev mX10_sumOf : ZM := (yX10_sumOf, cX10_sumOf, 4, (some .int), 0, 2, 10, 0, 0)
set_option maxRecDepth 100000 in
theorem gd_X10_sumOf : zgood mX10_sumOf := ⟨zi_47 (List.mem_of_getElem? (i := 13) rfl), zi_4 (List.mem_of_getElem? (i := 7) rfl), by decide, by decide +kernel, by decide +kernel, by decide +kernel, by decide +kernel, Or.inl ⟨rfl, zi_47 (List.mem_of_getElem? (i := 12) rfl)⟩⟩
abbrev mX11_init : ZM := (yX11_init, cX11_init, 2, none, 2, 1, 11, 14, 1407)
set_option maxRecDepth 100000 in
theorem gd_X11_init : zgood mX11_init := ⟨zi_48 (List.mem_of_getElem? (i := 6) rfl), zi_5 (List.mem_of_getElem? (i := 3) rfl), by decide, by decide +kernel, by decide +kernel, by decide +kernel, by decide +kernel, Or.inr (Or.inr ⟨rfl, zi_48 (List.mem_of_getElem? (i := 5) rfl), rfl, rfl, by decide⟩)⟩
abbrev mX11_finds : ZM := (yX11_finds, cX11_finds, 2, (some .int), 1, 2, 11, 0, 0)
set_option maxRecDepth 100000 in
theorem gd_X11_finds : zgood mX11_finds := ⟨zi_52 (List.mem_of_getElem? (i := 7) rfl), zi_5 (List.mem_of_getElem? (i := 3) rfl), by decide, by decide +kernel, by decide +kernel, by decide +kernel, by decide +kernel, Or.inr (Or.inl ⟨rfl, zi_52 (List.mem_of_getElem? (i := 6) rfl), zi_1 (List.mem_of_getElem? (i := 9) rfl), rfl, by decide⟩)⟩
abbrev mX11_in : ZM := (yX11_in, cX11_in, 6, (some .boolean), 0, 3, 11, 0, 0)
set_option maxRecDepth 100000 in
theorem gd_X11_in : zgood mX11_in := ⟨zi_52 (List.mem_of_getElem? (i := 4) rfl), zi_5 (List.mem_of_getElem? (i := 3) rfl), by decide, by decide +kernel, by decide +kernel, by decide +kernel, by decide +kernel, Or.inl ⟨rfl, zi_52 (List.mem_of_getElem? (i := 3) rfl)⟩⟩
abbrev mX11_held : ZM := (yX11_held, cX11_held, 3, (some .int), 0, 3, 11, 0, 0)
set_option maxRecDepth 100000 in
theorem gd_X11_held : zgood mX11_held := ⟨zi_56 (List.mem_of_getElem? (i := 6) rfl), zi_5 (List.mem_of_getElem? (i := 3) rfl), by decide, by decide +kernel, by decide +kernel, by decide +kernel, by decide +kernel, Or.inl ⟨rfl, zi_56 (List.mem_of_getElem? (i := 5) rfl)⟩⟩
abbrev mX11_size : ZM := (yX11_size, cX11_size, 1, (some .int), 0, 1, 11, 0, 0)
set_option maxRecDepth 100000 in
theorem gd_X11_size : zgood mX11_size := ⟨zi_59 (List.mem_of_getElem? (i := 14) rfl), zi_5 (List.mem_of_getElem? (i := 3) rfl), by decide, by decide +kernel, by decide +kernel, by decide +kernel, by decide +kernel, Or.inl ⟨rfl, zi_59 (List.mem_of_getElem? (i := 13) rfl)⟩⟩
abbrev mX11_isEngineer : ZM := (yX11_isEngineer, cX11_isEngineer, 2, (some .boolean), 1, 2, 11, 0, 0)
set_option maxRecDepth 100000 in
theorem gd_X11_isEngineer : zgood mX11_isEngineer := ⟨zi_62 (List.mem_of_getElem? (i := 0) rfl), zi_5 (List.mem_of_getElem? (i := 3) rfl), by decide, by decide +kernel, by decide +kernel, by decide +kernel, by decide +kernel, Or.inr (Or.inl ⟨rfl, zi_61 (List.mem_of_getElem? (i := 15) rfl), zi_3 (List.mem_of_getElem? (i := 3) rfl), rfl, by decide⟩)⟩
abbrev mX11_isCell : ZM := (yX11_isCell, cX11_isCell, 1, (some .boolean), 0, 1, 11, 0, 0)
set_option maxRecDepth 100000 in
theorem gd_X11_isCell : zgood mX11_isCell := ⟨zi_56 (List.mem_of_getElem? (i := 13) rfl), zi_5 (List.mem_of_getElem? (i := 3) rfl), by decide, by decide +kernel, by decide +kernel, by decide +kernel, by decide +kernel, Or.inl ⟨rfl, zi_56 (List.mem_of_getElem? (i := 12) rfl)⟩⟩
abbrev mX11_isHead : ZM := (yX11_isHead, cX11_isHead, 1, (some .boolean), 0, 1, 11, 0, 0)
set_option maxRecDepth 100000 in
theorem gd_X11_isHead : zgood mX11_isHead := ⟨zi_58 (List.mem_of_getElem? (i := 8) rfl), zi_5 (List.mem_of_getElem? (i := 3) rfl), by decide, by decide +kernel, by decide +kernel, by decide +kernel, by decide +kernel, Or.inl ⟨rfl, zi_58 (List.mem_of_getElem? (i := 7) rfl)⟩⟩
abbrev mX11_of : ZM := (yX11_of, cX11_of, 3, (some .int), 1, 3, 11, 0, 0)
set_option maxRecDepth 100000 in
theorem gd_X11_of : zgood mX11_of := ⟨zi_59 (List.mem_of_getElem? (i := 5) rfl), zi_5 (List.mem_of_getElem? (i := 3) rfl), by decide, by decide +kernel, by decide +kernel, by decide +kernel, by decide +kernel, Or.inr (Or.inl ⟨rfl, zi_59 (List.mem_of_getElem? (i := 4) rfl), zi_2 (List.mem_of_getElem? (i := 13) rfl), rfl, by decide⟩)⟩
abbrev mX11_its : ZM := (yX11_its, cX11_its, 3, (some .int), 1, 3, 11, 0, 0)
set_option maxRecDepth 100000 in
theorem gd_X11_its : zgood mX11_its := ⟨zi_57 (List.mem_of_getElem? (i := 12) rfl), zi_5 (List.mem_of_getElem? (i := 3) rfl), by decide, by decide +kernel, by decide +kernel, by decide +kernel, by decide +kernel, Or.inr (Or.inl ⟨rfl, zi_57 (List.mem_of_getElem? (i := 11) rfl), zi_2 (List.mem_of_getElem? (i := 11) rfl), rfl, by decide⟩)⟩
abbrev mX11_above : ZM := (yX11_above, cX11_above, 1, (some .int), 0, 1, 11, 0, 0)
set_option maxRecDepth 100000 in
theorem gd_X11_above : zgood mX11_above := ⟨zi_63 (List.mem_of_getElem? (i := 1) rfl), zi_5 (List.mem_of_getElem? (i := 3) rfl), by decide, by decide +kernel, by decide +kernel, by decide +kernel, by decide +kernel, Or.inl ⟨rfl, zi_63 (List.mem_of_getElem? (i := 0) rfl)⟩⟩
abbrev mX11_becomes : ZM := (yX11_becomes, cX11_becomes, 4, (some .int), 1, 3, 11, 0, 0)
set_option maxRecDepth 100000 in
theorem gd_X11_becomes : zgood mX11_becomes := ⟨zi_57 (List.mem_of_getElem? (i := 2) rfl), zi_5 (List.mem_of_getElem? (i := 3) rfl), by decide, by decide +kernel, by decide +kernel, by decide +kernel, by decide +kernel, Or.inr (Or.inl ⟨rfl, zi_57 (List.mem_of_getElem? (i := 1) rfl), zi_2 (List.mem_of_getElem? (i := 9) rfl), rfl, by decide⟩)⟩
abbrev mX11_keepAside : ZM := (yX11_keepAside, cX11_keepAside, 2, none, 1, 1, 11, 0, 0)
set_option maxRecDepth 100000 in
theorem gd_X11_keepAside : zgood mX11_keepAside := ⟨zi_65 (List.mem_of_getElem? (i := 15) rfl), zi_5 (List.mem_of_getElem? (i := 3) rfl), by decide, by decide +kernel, by decide +kernel, by decide +kernel, by decide +kernel, Or.inr (Or.inl ⟨rfl, zi_65 (List.mem_of_getElem? (i := 14) rfl), zi_3 (List.mem_of_getElem? (i := 10) rfl), rfl, by decide⟩)⟩
abbrev mX11_putBack : ZM := (yX11_putBack, cX11_putBack, 2, none, 1, 1, 11, 0, 0)
set_option maxRecDepth 100000 in
theorem gd_X11_putBack : zgood mX11_putBack := ⟨zi_66 (List.mem_of_getElem? (i := 2) rfl), zi_5 (List.mem_of_getElem? (i := 3) rfl), by decide, by decide +kernel, by decide +kernel, by decide +kernel, by decide +kernel, Or.inr (Or.inl ⟨rfl, zi_66 (List.mem_of_getElem? (i := 1) rfl), zi_3 (List.mem_of_getElem? (i := 11) rfl), rfl, by decide⟩)⟩
abbrev mX11_here : ZM := (yX11_here, cX11_here, 1, (some .int), 1, 1, 11, 0, 0)
set_option maxRecDepth 100000 in
theorem gd_X11_here : zgood mX11_here := ⟨zi_54 (List.mem_of_getElem? (i := 5) rfl), zi_5 (List.mem_of_getElem? (i := 3) rfl), by decide, by decide +kernel, by decide +kernel, by decide +kernel, by decide +kernel, Or.inr (Or.inl ⟨rfl, zi_54 (List.mem_of_getElem? (i := 4) rfl), zi_2 (List.mem_of_getElem? (i := 1) rfl), rfl, by decide⟩)⟩
abbrev mX11_wrong : ZM := (yX11_wrong, cX11_wrong, 1, none, 1, 1, 11, 0, 0)
set_option maxRecDepth 100000 in
theorem gd_X11_wrong : zgood mX11_wrong := ⟨zi_54 (List.mem_of_getElem? (i := 11) rfl), zi_5 (List.mem_of_getElem? (i := 3) rfl), by decide, by decide +kernel, by decide +kernel, by decide +kernel, by decide +kernel, Or.inr (Or.inl ⟨rfl, zi_54 (List.mem_of_getElem? (i := 10) rfl), zi_2 (List.mem_of_getElem? (i := 3) rfl), rfl, by decide⟩)⟩
abbrev mX11_takes : ZM := (yX11_takes, cX11_takes, 2, (some .boolean), 1, 2, 11, 0, 0)
set_option maxRecDepth 100000 in
theorem gd_X11_takes : zgood mX11_takes := ⟨zi_55 (List.mem_of_getElem? (i := 1) rfl), zi_5 (List.mem_of_getElem? (i := 3) rfl), by decide, by decide +kernel, by decide +kernel, by decide +kernel, by decide +kernel, Or.inr (Or.inl ⟨rfl, zi_55 (List.mem_of_getElem? (i := 0) rfl), zi_2 (List.mem_of_getElem? (i := 5) rfl), rfl, by decide⟩)⟩
abbrev mX11_nameOf : ZM := (yX11_nameOf, cX11_nameOf, 2, (some .int), 1, 2, 11, 0, 0)
set_option maxRecDepth 100000 in
theorem gd_X11_nameOf : zgood mX11_nameOf := ⟨zi_55 (List.mem_of_getElem? (i := 4) rfl), zi_5 (List.mem_of_getElem? (i := 3) rfl), by decide, by decide +kernel, by decide +kernel, by decide +kernel, by decide +kernel, Or.inr (Or.inl ⟨rfl, zi_55 (List.mem_of_getElem? (i := 3) rfl), zi_2 (List.mem_of_getElem? (i := 6) rfl), rfl, by decide⟩)⟩
abbrev mX11_lay : ZM := (yX11_lay, cX11_lay, 2, none, 1, 2, 11, 0, 0)
set_option maxRecDepth 100000 in
theorem gd_X11_lay : zgood mX11_lay := ⟨zi_54 (List.mem_of_getElem? (i := 14) rfl), zi_5 (List.mem_of_getElem? (i := 3) rfl), by decide, by decide +kernel, by decide +kernel, by decide +kernel, by decide +kernel, Or.inr (Or.inl ⟨rfl, zi_54 (List.mem_of_getElem? (i := 13) rfl), zi_2 (List.mem_of_getElem? (i := 4) rfl), rfl, by decide⟩)⟩
abbrev mX11_either : ZM := (yX11_either, cX11_either, 1, none, 1, 1, 11, 0, 0)
set_option maxRecDepth 100000 in
theorem gd_X11_either : zgood mX11_either := ⟨zi_53 (List.mem_of_getElem? (i := 3) rfl), zi_5 (List.mem_of_getElem? (i := 3) rfl), by decide, by decide +kernel, by decide +kernel, by decide +kernel, by decide +kernel, Or.inr (Or.inl ⟨rfl, zi_53 (List.mem_of_getElem? (i := 2) rfl), zi_1 (List.mem_of_getElem? (i := 11) rfl), rfl, by decide⟩)⟩
abbrev mX11_both : ZM := (yX11_both, cX11_both, 1, none, 1, 1, 11, 0, 0)
set_option maxRecDepth 100000 in
theorem gd_X11_both : zgood mX11_both := ⟨zi_53 (List.mem_of_getElem? (i := 6) rfl), zi_5 (List.mem_of_getElem? (i := 3) rfl), by decide, by decide +kernel, by decide +kernel, by decide +kernel, by decide +kernel, Or.inr (Or.inl ⟨rfl, zi_53 (List.mem_of_getElem? (i := 5) rfl), zi_1 (List.mem_of_getElem? (i := 12) rfl), rfl, by decide⟩)⟩
abbrev mX11_compared : ZM := (yX11_compared, cX11_compared, 2, none, 1, 1, 11, 0, 0)
set_option maxRecDepth 100000 in
theorem gd_X11_compared : zgood mX11_compared := ⟨zi_53 (List.mem_of_getElem? (i := 9) rfl), zi_5 (List.mem_of_getElem? (i := 3) rfl), by decide, by decide +kernel, by decide +kernel, by decide +kernel, by decide +kernel, Or.inr (Or.inl ⟨rfl, zi_53 (List.mem_of_getElem? (i := 8) rfl), zi_1 (List.mem_of_getElem? (i := 13) rfl), rfl, by decide⟩)⟩
abbrev mX11_sum : ZM := (yX11_sum, cX11_sum, 2, none, 1, 1, 11, 0, 0)
set_option maxRecDepth 100000 in
theorem gd_X11_sum : zgood mX11_sum := ⟨zi_53 (List.mem_of_getElem? (i := 12) rfl), zi_5 (List.mem_of_getElem? (i := 3) rfl), by decide, by decide +kernel, by decide +kernel, by decide +kernel, by decide +kernel, Or.inr (Or.inl ⟨rfl, zi_53 (List.mem_of_getElem? (i := 11) rfl), zi_1 (List.mem_of_getElem? (i := 14) rfl), rfl, by decide⟩)⟩
abbrev mX11_product : ZM := (yX11_product, cX11_product, 2, none, 1, 1, 11, 0, 0)
set_option maxRecDepth 100000 in
theorem gd_X11_product : zgood mX11_product := ⟨zi_53 (List.mem_of_getElem? (i := 15) rfl), zi_5 (List.mem_of_getElem? (i := 3) rfl), by decide, by decide +kernel, by decide +kernel, by decide +kernel, by decide +kernel, Or.inr (Or.inl ⟨rfl, zi_53 (List.mem_of_getElem? (i := 14) rfl), zi_1 (List.mem_of_getElem? (i := 15) rfl), rfl, by decide⟩)⟩
abbrev mX11_opens : ZM := (yX11_opens, cX11_opens, 2, none, 1, 2, 11, 0, 0)
set_option maxRecDepth 100000 in
theorem gd_X11_opens : zgood mX11_opens := ⟨zi_54 (List.mem_of_getElem? (i := 8) rfl), zi_5 (List.mem_of_getElem? (i := 3) rfl), by decide, by decide +kernel, by decide +kernel, by decide +kernel, by decide +kernel, Or.inr (Or.inl ⟨rfl, zi_54 (List.mem_of_getElem? (i := 7) rfl), zi_2 (List.mem_of_getElem? (i := 2) rfl), rfl, by decide⟩)⟩
abbrev mX11_unit : ZM := (yX11_unit, cX11_unit, 5, none, 1, 1, 11, 0, 0)
set_option maxRecDepth 100000 in
theorem gd_X11_unit : zgood mX11_unit := ⟨zi_54 (List.mem_of_getElem? (i := 2) rfl), zi_5 (List.mem_of_getElem? (i := 3) rfl), by decide, by decide +kernel, by decide +kernel, by decide +kernel, by decide +kernel, Or.inr (Or.inl ⟨rfl, zi_54 (List.mem_of_getElem? (i := 1) rfl), zi_2 (List.mem_of_getElem? (i := 0) rfl), rfl, by decide⟩)⟩
abbrev mX11_reads : ZM := (yX11_reads, cX11_reads, 4, none, 1, 4, 11, 0, 0)
set_option maxRecDepth 100000 in
theorem gd_X11_reads : zgood mX11_reads := ⟨zi_53 (List.mem_of_getElem? (i := 0) rfl), zi_5 (List.mem_of_getElem? (i := 3) rfl), by decide, by decide +kernel, by decide +kernel, by decide +kernel, by decide +kernel, Or.inr (Or.inl ⟨rfl, zi_52 (List.mem_of_getElem? (i := 15) rfl), zi_1 (List.mem_of_getElem? (i := 10) rfl), rfl, by decide⟩)⟩
abbrev mX11_done : ZM := (yX11_done, cX11_done, 3, (some .int), 0, 3, 11, 0, 0)
set_option maxRecDepth 100000 in
theorem gd_X11_done : zgood mX11_done := ⟨zi_56 (List.mem_of_getElem? (i := 3) rfl), zi_5 (List.mem_of_getElem? (i := 3) rfl), by decide, by decide +kernel, by decide +kernel, by decide +kernel, by decide +kernel, Or.inl ⟨rfl, zi_56 (List.mem_of_getElem? (i := 2) rfl)⟩⟩
abbrev mX11_worked : ZM := (yX11_worked, cX11_worked, 6, (some .int), 1, 3, 11, 0, 0)
set_option maxRecDepth 100000 in
theorem gd_X11_worked : zgood mX11_worked := ⟨zi_56 (List.mem_of_getElem? (i := 0) rfl), zi_5 (List.mem_of_getElem? (i := 3) rfl), by decide, by decide +kernel, by decide +kernel, by decide +kernel, by decide +kernel, Or.inr (Or.inl ⟨rfl, zi_55 (List.mem_of_getElem? (i := 15) rfl), zi_2 (List.mem_of_getElem? (i := 8) rfl), rfl, by decide⟩)⟩
abbrev mX11_feed : ZM := (yX11_feed, cX11_feed, 5, (some .int), 1, 3, 11, 0, 0)
set_option maxRecDepth 100000 in
theorem gd_X11_feed : zgood mX11_feed := ⟨zi_52 (List.mem_of_getElem? (i := 0) rfl), zi_5 (List.mem_of_getElem? (i := 3) rfl), by decide, by decide +kernel, by decide +kernel, by decide +kernel, by decide +kernel, Or.inr (Or.inl ⟨rfl, zi_51 (List.mem_of_getElem? (i := 14) rfl), zi_51 (List.mem_of_getElem? (i := 15) rfl), rfl, by decide⟩)⟩
abbrev mX11_text : ZM := (yX11_text, cX11_text, 4, (some .int), 1, 2, 11, 0, 0)
set_option maxRecDepth 100000 in
theorem gd_X11_text : zgood mX11_text := ⟨zi_52 (List.mem_of_getElem? (i := 13) rfl), zi_5 (List.mem_of_getElem? (i := 3) rfl), by decide, by decide +kernel, by decide +kernel, by decide +kernel, by decide +kernel, Or.inr (Or.inl ⟨rfl, zi_52 (List.mem_of_getElem? (i := 11) rfl), zi_52 (List.mem_of_getElem? (i := 12) rfl), rfl, by decide⟩)⟩
abbrev mX11_textGives : ZM := (yX11_textGives, cX11_textGives, 6, (some .int), 1, 5, 11, 0, 0)
set_option maxRecDepth 100000 in
theorem gd_X11_textGives : zgood mX11_textGives := ⟨zi_55 (List.mem_of_getElem? (i := 13) rfl), zi_5 (List.mem_of_getElem? (i := 3) rfl), by decide, by decide +kernel, by decide +kernel, by decide +kernel, by decide +kernel, Or.inr (Or.inl ⟨rfl, zi_55 (List.mem_of_getElem? (i := 12) rfl), zi_2 (List.mem_of_getElem? (i := 7) rfl), rfl, by decide⟩)⟩
abbrev mX11_law : ZM := (yX11_law, cX11_law, 5, (some .int), 1, 5, 11, 0, 0)
set_option maxRecDepth 100000 in
theorem gd_X11_law : zgood mX11_law := ⟨zi_55 (List.mem_of_getElem? (i := 10) rfl), zi_5 (List.mem_of_getElem? (i := 3) rfl), by decide, by decide +kernel, by decide +kernel, by decide +kernel, by decide +kernel, Or.inr (Or.inl ⟨rfl, zi_55 (List.mem_of_getElem? (i := 8) rfl), zi_55 (List.mem_of_getElem? (i := 9) rfl), rfl, by decide⟩)⟩
abbrev mX11_far : ZM := (yX11_far, cX11_far, 2, (some .int), 0, 2, 11, 0, 0)
set_option maxRecDepth 100000 in
theorem gd_X11_far : zgood mX11_far := ⟨zi_60 (List.mem_of_getElem? (i := 7) rfl), zi_5 (List.mem_of_getElem? (i := 3) rfl), by decide, by decide +kernel, by decide +kernel, by decide +kernel, by decide +kernel, Or.inl ⟨rfl, zi_60 (List.mem_of_getElem? (i := 6) rfl)⟩⟩
abbrev mX11_beside : ZM := (yX11_beside, cX11_beside, 2, (some .int), 0, 2, 11, 0, 0)
set_option maxRecDepth 100000 in
theorem gd_X11_beside : zgood mX11_beside := ⟨zi_64 (List.mem_of_getElem? (i := 8) rfl), zi_5 (List.mem_of_getElem? (i := 3) rfl), by decide, by decide +kernel, by decide +kernel, by decide +kernel, by decide +kernel, Or.inl ⟨rfl, zi_64 (List.mem_of_getElem? (i := 7) rfl)⟩⟩
abbrev mX11_heads : ZM := (yX11_heads, cX11_heads, 1, (some .int), 1, 1, 11, 0, 0)
set_option maxRecDepth 100000 in
theorem gd_X11_heads : zgood mX11_heads := ⟨zi_64 (List.mem_of_getElem? (i := 2) rfl), zi_5 (List.mem_of_getElem? (i := 3) rfl), by decide, by decide +kernel, by decide +kernel, by decide +kernel, by decide +kernel, Or.inr (Or.inl ⟨rfl, zi_64 (List.mem_of_getElem? (i := 1) rfl), zi_3 (List.mem_of_getElem? (i := 7) rfl), rfl, by decide⟩)⟩
abbrev mX11_isPut : ZM := (yX11_isPut, cX11_isPut, 4, none, 1, 3, 11, 0, 0)
set_option maxRecDepth 100000 in
theorem gd_X11_isPut : zgood mX11_isPut := ⟨zi_48 (List.mem_of_getElem? (i := 10) rfl), zi_5 (List.mem_of_getElem? (i := 3) rfl), by decide, by decide +kernel, by decide +kernel, by decide +kernel, by decide +kernel, Or.inr (Or.inl ⟨rfl, zi_48 (List.mem_of_getElem? (i := 9) rfl), zi_1 (List.mem_of_getElem? (i := 8) rfl), rfl, by decide⟩)⟩
abbrev mX11_heardBy : ZM := (yX11_heardBy, cX11_heardBy, 2, (some .int), 1, 2, 11, 0, 0)
set_option maxRecDepth 100000 in
theorem gd_X11_heardBy : zgood mX11_heardBy := ⟨zi_59 (List.mem_of_getElem? (i := 11) rfl), zi_5 (List.mem_of_getElem? (i := 3) rfl), by decide, by decide +kernel, by decide +kernel, by decide +kernel, by decide +kernel, Or.inr (Or.inl ⟨rfl, zi_59 (List.mem_of_getElem? (i := 10) rfl), zi_2 (List.mem_of_getElem? (i := 15) rfl), rfl, by decide⟩)⟩
abbrev mX11_farHeard : ZM := (yX11_farHeard, cX11_farHeard, 3, (some .int), 1, 2, 11, 0, 0)
set_option maxRecDepth 100000 in
theorem gd_X11_farHeard : zgood mX11_farHeard := ⟨zi_60 (List.mem_of_getElem? (i := 4) rfl), zi_5 (List.mem_of_getElem? (i := 3) rfl), by decide, by decide +kernel, by decide +kernel, by decide +kernel, by decide +kernel, Or.inr (Or.inl ⟨rfl, zi_60 (List.mem_of_getElem? (i := 3) rfl), zi_3 (List.mem_of_getElem? (i := 0) rfl), rfl, by decide⟩)⟩
abbrev mX11_turned : ZM := (yX11_turned, cX11_turned, 2, (some .int), 0, 2, 11, 0, 0)
set_option maxRecDepth 100000 in
theorem gd_X11_turned : zgood mX11_turned := ⟨zi_60 (List.mem_of_getElem? (i := 1) rfl), zi_5 (List.mem_of_getElem? (i := 3) rfl), by decide, by decide +kernel, by decide +kernel, by decide +kernel, by decide +kernel, Or.inl ⟨rfl, zi_60 (List.mem_of_getElem? (i := 0) rfl)⟩⟩
abbrev mX11_points : ZM := (yX11_points, cX11_points, 11, (some .int), 1, 2, 11, 0, 0)
set_option maxRecDepth 100000 in
theorem gd_X11_points : zgood mX11_points := ⟨zi_59 (List.mem_of_getElem? (i := 8) rfl), zi_5 (List.mem_of_getElem? (i := 3) rfl), by decide, by decide +kernel, by decide +kernel, by decide +kernel, by decide +kernel, Or.inr (Or.inl ⟨rfl, zi_59 (List.mem_of_getElem? (i := 7) rfl), zi_2 (List.mem_of_getElem? (i := 14) rfl), rfl, by decide⟩)⟩
abbrev mX11_earsOf : ZM := (yX11_earsOf, cX11_earsOf, 3, (some .int), 1, 2, 11, 0, 0)
set_option maxRecDepth 100000 in
theorem gd_X11_earsOf : zgood mX11_earsOf := ⟨zi_60 (List.mem_of_getElem? (i := 13) rfl), zi_5 (List.mem_of_getElem? (i := 3) rfl), by decide, by decide +kernel, by decide +kernel, by decide +kernel, by decide +kernel, Or.inr (Or.inl ⟨rfl, zi_60 (List.mem_of_getElem? (i := 12) rfl), zi_3 (List.mem_of_getElem? (i := 2) rfl), rfl, by decide⟩)⟩
abbrev mX11_gives : ZM := (yX11_gives, cX11_gives, 2, (some .int), 1, 2, 11, 0, 0)
set_option maxRecDepth 100000 in
theorem gd_X11_gives : zgood mX11_gives := ⟨zi_60 (List.mem_of_getElem? (i := 10) rfl), zi_5 (List.mem_of_getElem? (i := 3) rfl), by decide, by decide +kernel, by decide +kernel, by decide +kernel, by decide +kernel, Or.inr (Or.inl ⟨rfl, zi_60 (List.mem_of_getElem? (i := 9) rfl), zi_3 (List.mem_of_getElem? (i := 1) rfl), rfl, by decide⟩)⟩
abbrev mX11_hearkens : ZM := (yX11_hearkens, cX11_hearkens, 7, (some .int), 1, 2, 11, 0, 0)
set_option maxRecDepth 100000 in
theorem gd_X11_hearkens : zgood mX11_hearkens := ⟨zi_59 (List.mem_of_getElem? (i := 2) rfl), zi_5 (List.mem_of_getElem? (i := 3) rfl), by decide, by decide +kernel, by decide +kernel, by decide +kernel, by decide +kernel, Or.inr (Or.inl ⟨rfl, zi_59 (List.mem_of_getElem? (i := 1) rfl), zi_2 (List.mem_of_getElem? (i := 12) rfl), rfl, by decide⟩)⟩
abbrev mX11_goes : ZM := (yX11_goes, cX11_goes, 5, none, 1, 3, 11, 0, 0)
set_option maxRecDepth 100000 in
theorem gd_X11_goes : zgood mX11_goes := ⟨zi_64 (List.mem_of_getElem? (i := 5) rfl), zi_5 (List.mem_of_getElem? (i := 3) rfl), by decide, by decide +kernel, by decide +kernel, by decide +kernel, by decide +kernel, Or.inr (Or.inl ⟨rfl, zi_64 (List.mem_of_getElem? (i := 4) rfl), zi_3 (List.mem_of_getElem? (i := 8) rfl), rfl, by decide⟩)⟩
abbrev mX11_yearGoes : ZM := (yX11_yearGoes, cX11_yearGoes, 5, none, 1, 1, 11, 0, 0)
set_option maxRecDepth 100000 in
theorem gd_X11_yearGoes : zgood mX11_yearGoes := ⟨zi_63 (List.mem_of_getElem? (i := 15) rfl), zi_5 (List.mem_of_getElem? (i := 3) rfl), by decide, by decide +kernel, by decide +kernel, by decide +kernel, by decide +kernel, Or.inr (Or.inl ⟨rfl, zi_63 (List.mem_of_getElem? (i := 14) rfl), zi_3 (List.mem_of_getElem? (i := 6) rfl), rfl, by decide⟩)⟩
abbrev mX11_yearsGo : ZM := (yX11_yearsGo, cX11_yearsGo, 3, none, 1, 2, 11, 0, 0)
set_option maxRecDepth 100000 in
theorem gd_X11_yearsGo : zgood mX11_yearsGo := ⟨zi_63 (List.mem_of_getElem? (i := 12) rfl), zi_5 (List.mem_of_getElem? (i := 3) rfl), by decide, by decide +kernel, by decide +kernel, by decide +kernel, by decide +kernel, Or.inr (Or.inl ⟨rfl, zi_63 (List.mem_of_getElem? (i := 11) rfl), zi_3 (List.mem_of_getElem? (i := 5) rfl), rfl, by decide⟩)⟩
abbrev mX11_rock : ZM := (yX11_rock, cX11_rock, 3, (some .int), 1, 3, 11, 0, 0)
set_option maxRecDepth 100000 in
theorem gd_X11_rock : zgood mX11_rock := ⟨zi_56 (List.mem_of_getElem? (i := 10) rfl), zi_5 (List.mem_of_getElem? (i := 3) rfl), by decide, by decide +kernel, by decide +kernel, by decide +kernel, by decide +kernel, Or.inr (Or.inl ⟨rfl, zi_56 (List.mem_of_getElem? (i := 8) rfl), zi_56 (List.mem_of_getElem? (i := 9) rfl), rfl, by decide⟩)⟩
abbrev mX11_headsAt : ZM := (yX11_headsAt, cX11_headsAt, 2, (some .int), 1, 2, 11, 0, 0)
set_option maxRecDepth 100000 in
theorem gd_X11_headsAt : zgood mX11_headsAt := ⟨zi_57 (List.mem_of_getElem? (i := 9) rfl), zi_5 (List.mem_of_getElem? (i := 3) rfl), by decide, by decide +kernel, by decide +kernel, by decide +kernel, by decide +kernel, Or.inr (Or.inl ⟨rfl, zi_57 (List.mem_of_getElem? (i := 8) rfl), zi_2 (List.mem_of_getElem? (i := 10) rfl), rfl, by decide⟩)⟩
abbrev mX11_dig : ZM := (yX11_dig, cX11_dig, 3, (some .int), 1, 3, 11, 0, 0)
set_option maxRecDepth 100000 in
theorem gd_X11_dig : zgood mX11_dig := ⟨zi_57 (List.mem_of_getElem? (i := 6) rfl), zi_5 (List.mem_of_getElem? (i := 3) rfl), by decide, by decide +kernel, by decide +kernel, by decide +kernel, by decide +kernel, Or.inr (Or.inl ⟨rfl, zi_57 (List.mem_of_getElem? (i := 4) rfl), zi_57 (List.mem_of_getElem? (i := 5) rfl), rfl, by decide⟩)⟩
abbrev mX11_ofCell : ZM := (yX11_ofCell, cX11_ofCell, 3, (some .int), 1, 3, 11, 0, 0)
set_option maxRecDepth 100000 in
theorem gd_X11_ofCell : zgood mX11_ofCell := ⟨zi_58 (List.mem_of_getElem? (i := 0) rfl), zi_5 (List.mem_of_getElem? (i := 3) rfl), by decide, by decide +kernel, by decide +kernel, by decide +kernel, by decide +kernel, Or.inr (Or.inl ⟨rfl, zi_57 (List.mem_of_getElem? (i := 14) rfl), zi_57 (List.mem_of_getElem? (i := 15) rfl), rfl, by decide⟩)⟩
abbrev mX11_head : ZM := (yX11_head, cX11_head, 5, (some .int), 1, 4, 11, 0, 0)
set_option maxRecDepth 100000 in
theorem gd_X11_head : zgood mX11_head := ⟨zi_58 (List.mem_of_getElem? (i := 5) rfl), zi_5 (List.mem_of_getElem? (i := 3) rfl), by decide, by decide +kernel, by decide +kernel, by decide +kernel, by decide +kernel, Or.inr (Or.inl ⟨rfl, zi_58 (List.mem_of_getElem? (i := 3) rfl), zi_58 (List.mem_of_getElem? (i := 4) rfl), rfl, by decide⟩)⟩
abbrev mX11_ofHead : ZM := (yX11_ofHead, cX11_ofHead, 3, (some .int), 1, 3, 11, 0, 0)
set_option maxRecDepth 100000 in
theorem gd_X11_ofHead : zgood mX11_ofHead := ⟨zi_58 (List.mem_of_getElem? (i := 14) rfl), zi_5 (List.mem_of_getElem? (i := 3) rfl), by decide, by decide +kernel, by decide +kernel, by decide +kernel, by decide +kernel, Or.inr (Or.inl ⟨rfl, zi_58 (List.mem_of_getElem? (i := 12) rfl), zi_58 (List.mem_of_getElem? (i := 13) rfl), rfl, by decide⟩)⟩
abbrev mX11_delay : ZM := (yX11_delay, cX11_delay, 2, (some .int), 1, 2, 11, 0, 0)
set_option maxRecDepth 100000 in
theorem gd_X11_delay : zgood mX11_delay := ⟨zi_61 (List.mem_of_getElem? (i := 1) rfl), zi_5 (List.mem_of_getElem? (i := 3) rfl), by decide, by decide +kernel, by decide +kernel, by decide +kernel, by decide +kernel, Or.inr (Or.inl ⟨rfl, zi_60 (List.mem_of_getElem? (i := 15) rfl), zi_61 (List.mem_of_getElem? (i := 0) rfl), rfl, by decide⟩)⟩
abbrev mX11_isKm : ZM := (yX11_isKm, cX11_isKm, 1, (some .boolean), 0, 1, 11, 0, 0)
set_option maxRecDepth 100000 in
theorem gd_X11_isKm : zgood mX11_isKm := ⟨zi_61 (List.mem_of_getElem? (i := 8) rfl), zi_5 (List.mem_of_getElem? (i := 3) rfl), by decide, by decide +kernel, by decide +kernel, by decide +kernel, by decide +kernel, Or.inl ⟨rfl, zi_61 (List.mem_of_getElem? (i := 7) rfl)⟩⟩
abbrev mX11_engineer : ZM := (yX11_engineer, cX11_engineer, 4, (some .int), 1, 3, 11, 0, 0)
set_option maxRecDepth 100000 in
theorem gd_X11_engineer : zgood mX11_engineer := ⟨zi_61 (List.mem_of_getElem? (i := 5) rfl), zi_5 (List.mem_of_getElem? (i := 3) rfl), by decide, by decide +kernel, by decide +kernel, by decide +kernel, by decide +kernel, Or.inr (Or.inl ⟨rfl, zi_61 (List.mem_of_getElem? (i := 3) rfl), zi_61 (List.mem_of_getElem? (i := 4) rfl), rfl, by decide⟩)⟩
abbrev mX11_ofEngineer : ZM := (yX11_ofEngineer, cX11_ofEngineer, 3, (some .int), 1, 3, 11, 0, 0)
set_option maxRecDepth 100000 in
theorem gd_X11_ofEngineer : zgood mX11_ofEngineer := ⟨zi_61 (List.mem_of_getElem? (i := 13) rfl), zi_5 (List.mem_of_getElem? (i := 3) rfl), by decide, by decide +kernel, by decide +kernel, by decide +kernel, by decide +kernel, Or.inr (Or.inl ⟨rfl, zi_61 (List.mem_of_getElem? (i := 11) rfl), zi_61 (List.mem_of_getElem? (i := 12) rfl), rfl, by decide⟩)⟩
abbrev mX11_change : ZM := (yX11_change, cX11_change, 3, (some .int), 1, 3, 11, 0, 0)
set_option maxRecDepth 100000 in
theorem gd_X11_change : zgood mX11_change := ⟨zi_62 (List.mem_of_getElem? (i := 5) rfl), zi_5 (List.mem_of_getElem? (i := 3) rfl), by decide, by decide +kernel, by decide +kernel, by decide +kernel, by decide +kernel, Or.inr (Or.inl ⟨rfl, zi_62 (List.mem_of_getElem? (i := 3) rfl), zi_62 (List.mem_of_getElem? (i := 4) rfl), rfl, by decide⟩)⟩
abbrev mX11_become : ZM := (yX11_become, cX11_become, 3, (some .int), 1, 3, 11, 0, 0)
set_option maxRecDepth 100000 in
theorem gd_X11_become : zgood mX11_become := ⟨zi_62 (List.mem_of_getElem? (i := 9) rfl), zi_5 (List.mem_of_getElem? (i := 3) rfl), by decide, by decide +kernel, by decide +kernel, by decide +kernel, by decide +kernel, Or.inr (Or.inl ⟨rfl, zi_62 (List.mem_of_getElem? (i := 7) rfl), zi_62 (List.mem_of_getElem? (i := 8) rfl), rfl, by decide⟩)⟩
abbrev mX11_as : ZM := (yX11_as, cX11_as, 4, (some .int), 1, 3, 11, 0, 0)
set_option maxRecDepth 100000 in
theorem gd_X11_as : zgood mX11_as := ⟨zi_62 (List.mem_of_getElem? (i := 13) rfl), zi_5 (List.mem_of_getElem? (i := 3) rfl), by decide, by decide +kernel, by decide +kernel, by decide +kernel, by decide +kernel, Or.inr (Or.inl ⟨rfl, zi_62 (List.mem_of_getElem? (i := 11) rfl), zi_62 (List.mem_of_getElem? (i := 12) rfl), rfl, by decide⟩)⟩
abbrev mX11_isLate : ZM := (yX11_isLate, cX11_isLate, 2, (some .boolean), 1, 2, 11, 0, 0)
set_option maxRecDepth 100000 in
theorem gd_X11_isLate : zgood mX11_isLate := ⟨zi_63 (List.mem_of_getElem? (i := 9) rfl), zi_5 (List.mem_of_getElem? (i := 3) rfl), by decide, by decide +kernel, by decide +kernel, by decide +kernel, by decide +kernel, Or.inr (Or.inl ⟨rfl, zi_63 (List.mem_of_getElem? (i := 8) rfl), zi_3 (List.mem_of_getElem? (i := 4) rfl), rfl, by decide⟩)⟩
abbrev mX11_years : ZM := (yX11_years, cX11_years, 2, (some .int), 1, 2, 11, 0, 0)
set_option maxRecDepth 100000 in
theorem gd_X11_years : zgood mX11_years := ⟨zi_63 (List.mem_of_getElem? (i := 5) rfl), zi_5 (List.mem_of_getElem? (i := 3) rfl), by decide, by decide +kernel, by decide +kernel, by decide +kernel, by decide +kernel, Or.inr (Or.inl ⟨rfl, zi_63 (List.mem_of_getElem? (i := 3) rfl), zi_63 (List.mem_of_getElem? (i := 4) rfl), rfl, by decide⟩)⟩
abbrev mX11_draw : ZM := (yX11_draw, cX11_draw, 1, (some .int), 1, 1, 11, 0, 0)
set_option maxRecDepth 100000 in
theorem gd_X11_draw : zgood mX11_draw := ⟨zi_65 (List.mem_of_getElem? (i := 0) rfl), zi_5 (List.mem_of_getElem? (i := 3) rfl), by decide, by decide +kernel, by decide +kernel, by decide +kernel, by decide +kernel, Or.inr (Or.inl ⟨rfl, zi_64 (List.mem_of_getElem? (i := 15) rfl), zi_3 (List.mem_of_getElem? (i := 9) rfl), rfl, by decide⟩)⟩
abbrev mX11_loose : ZM := (yX11_loose, cX11_loose, 4, (some .int), 1, 2, 11, 0, 0)
set_option maxRecDepth 100000 in
theorem gd_X11_loose : zgood mX11_loose := ⟨zi_64 (List.mem_of_getElem? (i := 12) rfl), zi_5 (List.mem_of_getElem? (i := 3) rfl), by decide, by decide +kernel, by decide +kernel, by decide +kernel, by decide +kernel, Or.inr (Or.inl ⟨rfl, zi_64 (List.mem_of_getElem? (i := 10) rfl), zi_64 (List.mem_of_getElem? (i := 11) rfl), rfl, by decide⟩)⟩
abbrev mX11_seed : ZM := (yX11_seed, cX11_seed, 2, (some .int), 1, 2, 11, 0, 0)
set_option maxRecDepth 100000 in
theorem gd_X11_seed : zgood mX11_seed := ⟨zi_65 (List.mem_of_getElem? (i := 5) rfl), zi_5 (List.mem_of_getElem? (i := 3) rfl), by decide, by decide +kernel, by decide +kernel, by decide +kernel, by decide +kernel, Or.inr (Or.inl ⟨rfl, zi_65 (List.mem_of_getElem? (i := 3) rfl), zi_65 (List.mem_of_getElem? (i := 4) rfl), rfl, by decide⟩)⟩
abbrev mX11_isAhead : ZM := (yX11_isAhead, cX11_isAhead, 1, (some .boolean), 0, 1, 11, 0, 0)
set_option maxRecDepth 100000 in
theorem gd_X11_isAhead : zgood mX11_isAhead := ⟨zi_65 (List.mem_of_getElem? (i := 12) rfl), zi_5 (List.mem_of_getElem? (i := 3) rfl), by decide, by decide +kernel, by decide +kernel, by decide +kernel, by decide +kernel, Or.inl ⟨rfl, zi_65 (List.mem_of_getElem? (i := 11) rfl)⟩⟩
abbrev mX11_then : ZM := (yX11_then, cX11_then, 5, (some .int), 1, 4, 11, 0, 0)
set_option maxRecDepth 100000 in
theorem gd_X11_then : zgood mX11_then := ⟨zi_65 (List.mem_of_getElem? (i := 9) rfl), zi_5 (List.mem_of_getElem? (i := 3) rfl), by decide, by decide +kernel, by decide +kernel, by decide +kernel, by decide +kernel, Or.inr (Or.inl ⟨rfl, zi_65 (List.mem_of_getElem? (i := 7) rfl), zi_65 (List.mem_of_getElem? (i := 8) rfl), rfl, by decide⟩)⟩
abbrev mX11_meets : ZM := (yX11_meets, cX11_meets, 3, (some .int), 1, 1, 11, 0, 0)
set_option maxRecDepth 100000 in
theorem gd_X11_meets : zgood mX11_meets := ⟨zi_66 (List.mem_of_getElem? (i := 6) rfl), zi_5 (List.mem_of_getElem? (i := 3) rfl), by decide, by decide +kernel, by decide +kernel, by decide +kernel, by decide +kernel, Or.inr (Or.inl ⟨rfl, zi_66 (List.mem_of_getElem? (i := 4) rfl), zi_66 (List.mem_of_getElem? (i := 5) rfl), rfl, by decide⟩)⟩
abbrev mX11_apartBehind : ZM := (yX11_apartBehind, cX11_apartBehind, 3, (some .int), 1, 2, 11, 0, 0)
set_option maxRecDepth 100000 in
theorem gd_X11_apartBehind : zgood mX11_apartBehind := ⟨zi_66 (List.mem_of_getElem? (i := 13) rfl), zi_5 (List.mem_of_getElem? (i := 3) rfl), by decide, by decide +kernel, by decide +kernel, by decide +kernel, by decide +kernel, Or.inr (Or.inl ⟨rfl, zi_66 (List.mem_of_getElem? (i := 12) rfl), zi_3 (List.mem_of_getElem? (i := 12) rfl), rfl, by decide⟩)⟩
abbrev mX11_apart : ZM := (yX11_apart, cX11_apart, 2, (some .int), 1, 2, 11, 0, 0)
set_option maxRecDepth 100000 in
theorem gd_X11_apart : zgood mX11_apart := ⟨zi_66 (List.mem_of_getElem? (i := 10) rfl), zi_5 (List.mem_of_getElem? (i := 3) rfl), by decide, by decide +kernel, by decide +kernel, by decide +kernel, by decide +kernel, Or.inr (Or.inl ⟨rfl, zi_66 (List.mem_of_getElem? (i := 8) rfl), zi_66 (List.mem_of_getElem? (i := 9) rfl), rfl, by decide⟩)⟩
abbrev mX11_delayFor : ZM := (yX11_delayFor, cX11_delayFor, 6, (some .int), 1, 2, 11, 0, 0)
set_option maxRecDepth 100000 in
theorem gd_X11_delayFor : zgood mX11_delayFor := ⟨zi_67 (List.mem_of_getElem? (i := 1) rfl), zi_5 (List.mem_of_getElem? (i := 3) rfl), by decide, by decide +kernel, by decide +kernel, by decide +kernel, by decide +kernel, Or.inr (Or.inl ⟨rfl, zi_66 (List.mem_of_getElem? (i := 15) rfl), zi_67 (List.mem_of_getElem? (i := 0) rfl), rfl, by decide⟩)⟩
abbrev mX11_powerFor : ZM := (yX11_powerFor, cX11_powerFor, 5, (some .int), 1, 4, 11, 0, 0)
set_option maxRecDepth 100000 in
theorem gd_X11_powerFor : zgood mX11_powerFor := ⟨zi_67 (List.mem_of_getElem? (i := 6) rfl), zi_5 (List.mem_of_getElem? (i := 3) rfl), by decide, by decide +kernel, by decide +kernel, by decide +kernel, by decide +kernel, Or.inr (Or.inl ⟨rfl, zi_67 (List.mem_of_getElem? (i := 4) rfl), zi_67 (List.mem_of_getElem? (i := 5) rfl), rfl, by decide⟩)⟩
abbrev mX11_needless : ZM := (yX11_needless, cX11_needless, 5, (some .int), 1, 2, 11, 0, 0)
set_option maxRecDepth 100000 in
theorem gd_X11_needless : zgood mX11_needless := ⟨zi_67 (List.mem_of_getElem? (i := 11) rfl), zi_5 (List.mem_of_getElem? (i := 3) rfl), by decide, by decide +kernel, by decide +kernel, by decide +kernel, by decide +kernel, Or.inr (Or.inl ⟨rfl, zi_67 (List.mem_of_getElem? (i := 9) rfl), zi_67 (List.mem_of_getElem? (i := 10) rfl), rfl, by decide⟩)⟩
abbrev mX11_isTold : ZM := (yX11_isTold, cX11_isTold, 5, (some .boolean), 1, 3, 11, 0, 0)
set_option maxRecDepth 100000 in
theorem gd_X11_isTold : zgood mX11_isTold := ⟨zi_68 (List.mem_of_getElem? (i := 6) rfl), zi_5 (List.mem_of_getElem? (i := 3) rfl), by decide, by decide +kernel, by decide +kernel, by decide +kernel, by decide +kernel, Or.inr (Or.inl ⟨rfl, zi_68 (List.mem_of_getElem? (i := 5) rfl), zi_3 (List.mem_of_getElem? (i := 13) rfl), rfl, by decide⟩)⟩
abbrev mX11_heard : ZM := (yX11_heard, cX11_heard, 8, (some .int), 1, 4, 11, 0, 0)
set_option maxRecDepth 100000 in
theorem gd_X11_heard : zgood mX11_heard := ⟨zi_67 (List.mem_of_getElem? (i := 15) rfl), zi_5 (List.mem_of_getElem? (i := 3) rfl), by decide, by decide +kernel, by decide +kernel, by decide +kernel, by decide +kernel, Or.inr (Or.inl ⟨rfl, zi_67 (List.mem_of_getElem? (i := 13) rfl), zi_67 (List.mem_of_getElem? (i := 14) rfl), rfl, by decide⟩)⟩
abbrev mX11_which : ZM := (yX11_which, cX11_which, 5, (some .int), 1, 3, 11, 0, 0)
set_option maxRecDepth 100000 in
theorem gd_X11_which : zgood mX11_which := ⟨zi_68 (List.mem_of_getElem? (i := 10) rfl), zi_5 (List.mem_of_getElem? (i := 3) rfl), by decide, by decide +kernel, by decide +kernel, by decide +kernel, by decide +kernel, Or.inr (Or.inl ⟨rfl, zi_68 (List.mem_of_getElem? (i := 8) rfl), zi_68 (List.mem_of_getElem? (i := 9) rfl), rfl, by decide⟩)⟩
abbrev mX11_measures : ZM := (yX11_measures, cX11_measures, 8, none, 1, 3, 11, 0, 0)
set_option maxRecDepth 100000 in
theorem gd_X11_measures : zgood mX11_measures := ⟨zi_69 (List.mem_of_getElem? (i := 1) rfl), zi_5 (List.mem_of_getElem? (i := 3) rfl), by decide, by decide +kernel, by decide +kernel, by decide +kernel, by decide +kernel, Or.inr (Or.inl ⟨rfl, zi_69 (List.mem_of_getElem? (i := 0) rfl), zi_3 (List.mem_of_getElem? (i := 14) rfl), rfl, by decide⟩)⟩
abbrev mX11_takesRock : ZM := (yX11_takesRock, cX11_takesRock, 2, (some .int), 1, 2, 11, 0, 0)
set_option maxRecDepth 100000 in
theorem gd_X11_takesRock : zgood mX11_takesRock := ⟨zi_69 (List.mem_of_getElem? (i := 4) rfl), zi_5 (List.mem_of_getElem? (i := 3) rfl), by decide, by decide +kernel, by decide +kernel, by decide +kernel, by decide +kernel, Or.inr (Or.inl ⟨rfl, zi_69 (List.mem_of_getElem? (i := 3) rfl), zi_3 (List.mem_of_getElem? (i := 15) rfl), rfl, by decide⟩)⟩
abbrev mX11_join : ZM := (yX11_join, cX11_join, 3, (some .int), 1, 3, 11, 0, 0)
set_option maxRecDepth 100000 in
theorem gd_X11_join : zgood mX11_join := ⟨zi_68 (List.mem_of_getElem? (i := 14) rfl), zi_5 (List.mem_of_getElem? (i := 3) rfl), by decide, by decide +kernel, by decide +kernel, by decide +kernel, by decide +kernel, Or.inr (Or.inl ⟨rfl, zi_68 (List.mem_of_getElem? (i := 12) rfl), zi_68 (List.mem_of_getElem? (i := 13) rfl), rfl, by decide⟩)⟩
abbrev mX11_steps : ZM := (yX11_steps, cX11_steps, 3, (some .int), 1, 3, 11, 0, 0)
set_option maxRecDepth 100000 in
theorem gd_X11_steps : zgood mX11_steps := ⟨zi_69 (List.mem_of_getElem? (i := 8) rfl), zi_5 (List.mem_of_getElem? (i := 3) rfl), by decide, by decide +kernel, by decide +kernel, by decide +kernel, by decide +kernel, Or.inr (Or.inl ⟨rfl, zi_69 (List.mem_of_getElem? (i := 6) rfl), zi_69 (List.mem_of_getElem? (i := 7) rfl), rfl, by decide⟩)⟩
abbrev mX11_isOpen : ZM := (yX11_isOpen, cX11_isOpen, 4, (some .boolean), 1, 3, 11, 0, 0)
set_option maxRecDepth 100000 in
theorem gd_X11_isOpen : zgood mX11_isOpen := ⟨zi_70 (List.mem_of_getElem? (i := 0) rfl), zi_5 (List.mem_of_getElem? (i := 3) rfl), by decide, by decide +kernel, by decide +kernel, by decide +kernel, by decide +kernel, Or.inr (Or.inl ⟨rfl, zi_69 (List.mem_of_getElem? (i := 15) rfl), zi_4 (List.mem_of_getElem? (i := 0) rfl), rfl, by decide⟩)⟩
abbrev mX11_hand : ZM := (yX11_hand, cX11_hand, 10, (some .int), 1, 4, 11, 0, 0)
set_option maxRecDepth 100000 in
theorem gd_X11_hand : zgood mX11_hand := ⟨zi_69 (List.mem_of_getElem? (i := 12) rfl), zi_5 (List.mem_of_getElem? (i := 3) rfl), by decide, by decide +kernel, by decide +kernel, by decide +kernel, by decide +kernel, Or.inr (Or.inl ⟨rfl, zi_69 (List.mem_of_getElem? (i := 10) rfl), zi_69 (List.mem_of_getElem? (i := 11) rfl), rfl, by decide⟩)⟩
abbrev mX11_parts : ZM := (yX11_parts, cX11_parts, 4, (some .int), 1, 1, 11, 0, 0)
set_option maxRecDepth 100000 in
theorem gd_X11_parts : zgood mX11_parts := ⟨zi_70 (List.mem_of_getElem? (i := 4) rfl), zi_5 (List.mem_of_getElem? (i := 3) rfl), by decide, by decide +kernel, by decide +kernel, by decide +kernel, by decide +kernel, Or.inr (Or.inl ⟨rfl, zi_70 (List.mem_of_getElem? (i := 2) rfl), zi_70 (List.mem_of_getElem? (i := 3) rfl), rfl, by decide⟩)⟩
abbrev mX11_common : ZM := (yX11_common, cX11_common, 5, (some .int), 0, 2, 11, 0, 0)
set_option maxRecDepth 100000 in
theorem gd_X11_common : zgood mX11_common := ⟨zi_70 (List.mem_of_getElem? (i := 12) rfl), zi_5 (List.mem_of_getElem? (i := 3) rfl), by decide, by decide +kernel, by decide +kernel, by decide +kernel, by decide +kernel, Or.inl ⟨rfl, zi_70 (List.mem_of_getElem? (i := 11) rfl)⟩⟩
abbrev mX11_odds : ZM := (yX11_odds, cX11_odds, 6, (some .int), 1, 4, 11, 0, 0)
set_option maxRecDepth 100000 in
theorem gd_X11_odds : zgood mX11_odds := ⟨zi_70 (List.mem_of_getElem? (i := 8) rfl), zi_5 (List.mem_of_getElem? (i := 3) rfl), by decide, by decide +kernel, by decide +kernel, by decide +kernel, by decide +kernel, Or.inr (Or.inl ⟨rfl, zi_70 (List.mem_of_getElem? (i := 6) rfl), zi_70 (List.mem_of_getElem? (i := 7) rfl), rfl, by decide⟩)⟩
abbrev mX11_ran : ZM := (yX11_ran, cX11_ran, 2, none, 1, 2, 11, 0, 0)
set_option maxRecDepth 100000 in
theorem gd_X11_ran : zgood mX11_ran := ⟨zi_71 (List.mem_of_getElem? (i := 6) rfl), zi_5 (List.mem_of_getElem? (i := 3) rfl), by decide, by decide +kernel, by decide +kernel, by decide +kernel, by decide +kernel, Or.inr (Or.inl ⟨rfl, zi_71 (List.mem_of_getElem? (i := 5) rfl), zi_4 (List.mem_of_getElem? (i := 2) rfl), rfl, by decide⟩)⟩
abbrev mX11_knocksBy : ZM := (yX11_knocksBy, cX11_knocksBy, 3, (some .int), 1, 3, 11, 0, 0)
set_option maxRecDepth 100000 in
theorem gd_X11_knocksBy : zgood mX11_knocksBy := ⟨zi_71 (List.mem_of_getElem? (i := 3) rfl), zi_5 (List.mem_of_getElem? (i := 3) rfl), by decide, by decide +kernel, by decide +kernel, by decide +kernel, by decide +kernel, Or.inr (Or.inl ⟨rfl, zi_71 (List.mem_of_getElem? (i := 2) rfl), zi_4 (List.mem_of_getElem? (i := 1) rfl), rfl, by decide⟩)⟩
abbrev mX11_hearsBy : ZM := (yX11_hearsBy, cX11_hearsBy, 4, (some .int), 1, 3, 11, 0, 0)
set_option maxRecDepth 100000 in
theorem gd_X11_hearsBy : zgood mX11_hearsBy := ⟨zi_71 (List.mem_of_getElem? (i := 9) rfl), zi_5 (List.mem_of_getElem? (i := 3) rfl), by decide, by decide +kernel, by decide +kernel, by decide +kernel, by decide +kernel, Or.inr (Or.inl ⟨rfl, zi_71 (List.mem_of_getElem? (i := 8) rfl), zi_4 (List.mem_of_getElem? (i := 3) rfl), rfl, by decide⟩)⟩
abbrev mX11_digsBy : ZM := (yX11_digsBy, cX11_digsBy, 3, (some .int), 1, 3, 11, 0, 0)
set_option maxRecDepth 100000 in
theorem gd_X11_digsBy : zgood mX11_digsBy := ⟨zi_71 (List.mem_of_getElem? (i := 12) rfl), zi_5 (List.mem_of_getElem? (i := 3) rfl), by decide, by decide +kernel, by decide +kernel, by decide +kernel, by decide +kernel, Or.inr (Or.inl ⟨rfl, zi_71 (List.mem_of_getElem? (i := 11) rfl), zi_4 (List.mem_of_getElem? (i := 4) rfl), rfl, by decide⟩)⟩
abbrev mX11_tellsBy : ZM := (yX11_tellsBy, cX11_tellsBy, 4, (some .int), 1, 3, 11, 0, 0)
set_option maxRecDepth 100000 in
theorem gd_X11_tellsBy : zgood mX11_tellsBy := ⟨zi_71 (List.mem_of_getElem? (i := 15) rfl), zi_5 (List.mem_of_getElem? (i := 3) rfl), by decide, by decide +kernel, by decide +kernel, by decide +kernel, by decide +kernel, Or.inr (Or.inl ⟨rfl, zi_71 (List.mem_of_getElem? (i := 14) rfl), zi_4 (List.mem_of_getElem? (i := 5) rfl), rfl, by decide⟩)⟩
abbrev mX11_voice : ZM := (yX11_voice, cX11_voice, 5, (some .int), 1, 4, 11, 0, 0)
set_option maxRecDepth 100000 in
theorem gd_X11_voice : zgood mX11_voice := ⟨zi_71 (List.mem_of_getElem? (i := 0) rfl), zi_5 (List.mem_of_getElem? (i := 3) rfl), by decide, by decide +kernel, by decide +kernel, by decide +kernel, by decide +kernel, Or.inr (Or.inl ⟨rfl, zi_70 (List.mem_of_getElem? (i := 14) rfl), zi_70 (List.mem_of_getElem? (i := 15) rfl), rfl, by decide⟩)⟩
abbrev mX11_trace : ZM := (yX11_trace, cX11_trace, 2, (some .int), 1, 2, 11, 0, 0)
set_option maxRecDepth 100000 in
theorem gd_X11_trace : zgood mX11_trace := ⟨zi_72 (List.mem_of_getElem? (i := 3) rfl), zi_5 (List.mem_of_getElem? (i := 3) rfl), by decide, by decide +kernel, by decide +kernel, by decide +kernel, by decide +kernel, Or.inr (Or.inl ⟨rfl, zi_72 (List.mem_of_getElem? (i := 1) rfl), zi_72 (List.mem_of_getElem? (i := 2) rfl), rfl, by decide⟩)⟩
abbrev mX11_isSheet : ZM := (yX11_isSheet, cX11_isSheet, 1, (some .boolean), 0, 1, 11, 0, 0)
set_option maxRecDepth 100000 in
theorem gd_X11_isSheet : zgood mX11_isSheet := ⟨zi_68 (List.mem_of_getElem? (i := 2) rfl), zi_5 (List.mem_of_getElem? (i := 3) rfl), by decide, by decide +kernel, by decide +kernel, by decide +kernel, by decide +kernel, Or.inl ⟨rfl, zi_68 (List.mem_of_getElem? (i := 1) rfl)⟩⟩
abbrev mX11_sheet : ZM := (yX11_sheet, cX11_sheet, 5, (some .int), 1, 4, 11, 0, 0)
set_option maxRecDepth 100000 in
theorem gd_X11_sheet : zgood mX11_sheet := ⟨zi_72 (List.mem_of_getElem? (i := 7) rfl), zi_5 (List.mem_of_getElem? (i := 3) rfl), by decide, by decide +kernel, by decide +kernel, by decide +kernel, by decide +kernel, Or.inr (Or.inl ⟨rfl, zi_72 (List.mem_of_getElem? (i := 5) rfl), zi_72 (List.mem_of_getElem? (i := 6) rfl), rfl, by decide⟩)⟩
abbrev mX11_put : ZM := (yX11_put, cX11_put, 4, (some .int), 1, 4, 11, 0, 0)
set_option maxRecDepth 100000 in
theorem gd_X11_put : zgood mX11_put := ⟨zi_72 (List.mem_of_getElem? (i := 11) rfl), zi_5 (List.mem_of_getElem? (i := 3) rfl), by decide, by decide +kernel, by decide +kernel, by decide +kernel, by decide +kernel, Or.inr (Or.inl ⟨rfl, zi_72 (List.mem_of_getElem? (i := 9) rfl), zi_72 (List.mem_of_getElem? (i := 10) rfl), rfl, by decide⟩)⟩
abbrev mX11_move : ZM := (yX11_move, cX11_move, 7, (some .int), 1, 6, 11, 0, 0)
set_option maxRecDepth 100000 in
theorem gd_X11_move : zgood mX11_move := ⟨zi_72 (List.mem_of_getElem? (i := 15) rfl), zi_5 (List.mem_of_getElem? (i := 3) rfl), by decide, by decide +kernel, by decide +kernel, by decide +kernel, by decide +kernel, Or.inr (Or.inl ⟨rfl, zi_72 (List.mem_of_getElem? (i := 13) rfl), zi_72 (List.mem_of_getElem? (i := 14) rfl), rfl, by decide⟩)⟩
abbrev mX11_rocks : ZM := (yX11_rocks, cX11_rocks, 3, (some .int), 1, 2, 11, 0, 0)
set_option maxRecDepth 100000 in
theorem gd_X11_rocks : zgood mX11_rocks := ⟨zi_73 (List.mem_of_getElem? (i := 3) rfl), zi_5 (List.mem_of_getElem? (i := 3) rfl), by decide, by decide +kernel, by decide +kernel, by decide +kernel, by decide +kernel, Or.inr (Or.inl ⟨rfl, zi_73 (List.mem_of_getElem? (i := 1) rfl), zi_73 (List.mem_of_getElem? (i := 2) rfl), rfl, by decide⟩)⟩
abbrev mX11_judge : ZM := (yX11_judge, cX11_judge, 3, (some .int), 1, 2, 11, 0, 0)
set_option maxRecDepth 100000 in
theorem gd_X11_judge : zgood mX11_judge := ⟨zi_73 (List.mem_of_getElem? (i := 7) rfl), zi_5 (List.mem_of_getElem? (i := 3) rfl), by decide, by decide +kernel, by decide +kernel, by decide +kernel, by decide +kernel, Or.inr (Or.inl ⟨rfl, zi_73 (List.mem_of_getElem? (i := 5) rfl), zi_73 (List.mem_of_getElem? (i := 6) rfl), rfl, by decide⟩)⟩
abbrev mX11_image : ZM := (yX11_image, cX11_image, 2, (some .int), 1, 1, 11, 0, 0)
set_option maxRecDepth 100000 in
theorem gd_X11_image : zgood mX11_image := ⟨zi_73 (List.mem_of_getElem? (i := 11) rfl), zi_5 (List.mem_of_getElem? (i := 3) rfl), by decide, by decide +kernel, by decide +kernel, by decide +kernel, by decide +kernel, Or.inr (Or.inl ⟨rfl, zi_73 (List.mem_of_getElem? (i := 9) rfl), zi_73 (List.mem_of_getElem? (i := 10) rfl), rfl, by decide⟩)⟩
abbrev mX11_restore : ZM := (yX11_restore, cX11_restore, 2, (some .int), 1, 1, 11, 0, 0)
set_option maxRecDepth 100000 in
theorem gd_X11_restore : zgood mX11_restore := ⟨zi_73 (List.mem_of_getElem? (i := 15) rfl), zi_5 (List.mem_of_getElem? (i := 3) rfl), by decide, by decide +kernel, by decide +kernel, by decide +kernel, by decide +kernel, Or.inr (Or.inl ⟨rfl, zi_73 (List.mem_of_getElem? (i := 13) rfl), zi_73 (List.mem_of_getElem? (i := 14) rfl), rfl, by decide⟩)⟩
abbrev mX11_tell : ZM := (yX11_tell, cX11_tell, 2, (some .int), 1, 2, 11, 0, 0)
set_option maxRecDepth 100000 in
theorem gd_X11_tell : zgood mX11_tell := ⟨zi_74 (List.mem_of_getElem? (i := 3) rfl), zi_5 (List.mem_of_getElem? (i := 3) rfl), by decide, by decide +kernel, by decide +kernel, by decide +kernel, by decide +kernel, Or.inr (Or.inl ⟨rfl, zi_74 (List.mem_of_getElem? (i := 1) rfl), zi_74 (List.mem_of_getElem? (i := 2) rfl), rfl, by decide⟩)⟩
abbrev mX11_check : ZM := (yX11_check, cX11_check, 4, (some .int), 1, 1, 11, 0, 0)
set_option maxRecDepth 100000 in
theorem gd_X11_check : zgood mX11_check := ⟨zi_74 (List.mem_of_getElem? (i := 7) rfl), zi_5 (List.mem_of_getElem? (i := 3) rfl), by decide, by decide +kernel, by decide +kernel, by decide +kernel, by decide +kernel, Or.inr (Or.inl ⟨rfl, zi_74 (List.mem_of_getElem? (i := 5) rfl), zi_74 (List.mem_of_getElem? (i := 6) rfl), rfl, by decide⟩)⟩
abbrev mX11_sumOf : ZM := (yX11_sumOf, cX11_sumOf, 6, (some .int), 1, 4, 11, 0, 0)
set_option maxRecDepth 100000 in
theorem gd_X11_sumOf : zgood mX11_sumOf := ⟨zi_74 (List.mem_of_getElem? (i := 14) rfl), zi_5 (List.mem_of_getElem? (i := 3) rfl), by decide, by decide +kernel, by decide +kernel, by decide +kernel, by decide +kernel, Or.inr (Or.inl ⟨rfl, zi_74 (List.mem_of_getElem? (i := 13) rfl), zi_4 (List.mem_of_getElem? (i := 6) rfl), rfl, by decide⟩)⟩
abbrev mX11_count : ZM := (yX11_count, cX11_count, 2, (some .int), 1, 2, 11, 0, 0)
set_option maxRecDepth 100000 in
theorem gd_X11_count : zgood mX11_count := ⟨zi_74 (List.mem_of_getElem? (i := 11) rfl), zi_5 (List.mem_of_getElem? (i := 3) rfl), by decide, by decide +kernel, by decide +kernel, by decide +kernel, by decide +kernel, Or.inr (Or.inl ⟨rfl, zi_74 (List.mem_of_getElem? (i := 9) rfl), zi_74 (List.mem_of_getElem? (i := 10) rfl), rfl, by decide⟩)⟩
abbrev mX11_told : ZM := (yX11_told, cX11_told, 2, (some .int), 1, 2, 11, 0, 0)
set_option maxRecDepth 100000 in
theorem gd_X11_told : zgood mX11_told := ⟨zi_75 (List.mem_of_getElem? (i := 2) rfl), zi_5 (List.mem_of_getElem? (i := 3) rfl), by decide, by decide +kernel, by decide +kernel, by decide +kernel, by decide +kernel, Or.inr (Or.inl ⟨rfl, zi_75 (List.mem_of_getElem? (i := 0) rfl), zi_75 (List.mem_of_getElem? (i := 1) rfl), rfl, by decide⟩)⟩
abbrev mJ7_fill_53178 : ZM := (yJ7_fill_53178, cJ7_fill_53178, 4, none, 0, 2, 0, 0, 0)
set_option maxRecDepth 100000 in
theorem gd_J7_fill_53178 : zgood mJ7_fill_53178 := ⟨zi_24 (List.mem_of_getElem? (i := 4) rfl), zi_5 (List.mem_of_getElem? (i := 4) rfl), by decide, by decide +kernel, by decide +kernel, by decide +kernel, by decide +kernel, Or.inl ⟨rfl, zi_24 (List.mem_of_getElem? (i := 3) rfl)⟩⟩
def zon : Nat → String := fun o => match o with
  | 0 => RX0
  | 1 => RX1
  | 2 => RX2
  | 3 => RX3
  | 4 => RX4
  | 5 => RX5
  | 6 => RX6
  | 7 => RX7
  | 8 => RX8
  | 9 => RX9
  | 10 => RX10
  | 11 => RX11
  | 12 => RJ7
  | _ => RL
def zFT_0 : List (Nat × Nat × Nat) := [(9, 0, 0), (15, 0, 1), (18, 0, 2), (30, 0, 3)]
set_option maxRecDepth 100000 in
theorem zFT_0_ok : ∀ q ∈ zFT_0, ∃ (C : String) (T : u_T) (N : Nat), zcl[q.2.1]? = some (C, T, N) ∧ q.2.2 < N ∧ Cond.fieldLink (zon 0) q.1 (T q.2.2).1 (T q.2.2).2.1 (T q.2.2).2.2.1 ∈ zTb := List.forall_mem_cons.mpr ⟨⟨RX0, TX0, 4, rfl, by decide, zi_9 (List.mem_of_getElem? (i := 4) rfl)⟩, List.forall_mem_cons.mpr ⟨⟨RX0, TX0, 4, rfl, by decide, zi_9 (List.mem_of_getElem? (i := 8) rfl)⟩, List.forall_mem_cons.mpr ⟨⟨RX0, TX0, 4, rfl, by decide, zi_9 (List.mem_of_getElem? (i := 12) rfl)⟩, List.forall_mem_cons.mpr ⟨⟨RX0, TX0, 4, rfl, by decide, zi_10 (List.mem_of_getElem? (i := 0) rfl)⟩, fun _ h => absurd h List.not_mem_nil⟩⟩⟩⟩
def zFT_1 : List (Nat × Nat × Nat) := [(9, 1, 4), (15, 1, 0), (19, 1, 1), (23, 1, 2), (27, 1, 3), (30, 2, 2), (56, 0, 3), (62, 0, 2), (74, 2, 5), (77, 1, 5), (79, 1, 6), (82, 1, 7), (90, 1, 8), (93, 1, 9), (97, 0, 1), (100, 0, 0), (117, 2, 9)]
set_option maxRecDepth 100000 in
theorem zFT_1_ok : ∀ q ∈ zFT_1, ∃ (C : String) (T : u_T) (N : Nat), zcl[q.2.1]? = some (C, T, N) ∧ q.2.2 < N ∧ Cond.fieldLink (zon 1) q.1 (T q.2.2).1 (T q.2.2).2.1 (T q.2.2).2.2.1 ∈ zTb := List.forall_mem_cons.mpr ⟨⟨RX1, TX1, 10, rfl, by decide, zi_14 (List.mem_of_getElem? (i := 8) rfl)⟩, List.forall_mem_cons.mpr ⟨⟨RX1, TX1, 10, rfl, by decide, zi_14 (List.mem_of_getElem? (i := 2) rfl)⟩, List.forall_mem_cons.mpr ⟨⟨RX1, TX1, 10, rfl, by decide, zi_14 (List.mem_of_getElem? (i := 4) rfl)⟩, List.forall_mem_cons.mpr ⟨⟨RX1, TX1, 10, rfl, by decide, zi_14 (List.mem_of_getElem? (i := 6) rfl)⟩, List.forall_mem_cons.mpr ⟨⟨RX1, TX1, 10, rfl, by decide, zi_14 (List.mem_of_getElem? (i := 7) rfl)⟩, List.forall_mem_cons.mpr ⟨⟨RX2, TX2, 10, rfl, by decide, zi_7 (List.mem_of_getElem? (i := 4) rfl)⟩, List.forall_mem_cons.mpr ⟨⟨RX0, TX0, 4, rfl, by decide, zi_9 (List.mem_of_getElem? (i := 15) rfl)⟩, List.forall_mem_cons.mpr ⟨⟨RX0, TX0, 4, rfl, by decide, zi_9 (List.mem_of_getElem? (i := 13) rfl)⟩, List.forall_mem_cons.mpr ⟨⟨RX2, TX2, 10, rfl, by decide, zi_7 (List.mem_of_getElem? (i := 11) rfl)⟩, List.forall_mem_cons.mpr ⟨⟨RX1, TX1, 10, rfl, by decide, zi_14 (List.mem_of_getElem? (i := 9) rfl)⟩, List.forall_mem_cons.mpr ⟨⟨RX1, TX1, 10, rfl, by decide, zi_14 (List.mem_of_getElem? (i := 10) rfl)⟩, List.forall_mem_cons.mpr ⟨⟨RX1, TX1, 10, rfl, by decide, zi_14 (List.mem_of_getElem? (i := 11) rfl)⟩, List.forall_mem_cons.mpr ⟨⟨RX1, TX1, 10, rfl, by decide, zi_14 (List.mem_of_getElem? (i := 12) rfl)⟩, List.forall_mem_cons.mpr ⟨⟨RX1, TX1, 10, rfl, by decide, zi_14 (List.mem_of_getElem? (i := 13) rfl)⟩, List.forall_mem_cons.mpr ⟨⟨RX0, TX0, 4, rfl, by decide, zi_9 (List.mem_of_getElem? (i := 10) rfl)⟩, List.forall_mem_cons.mpr ⟨⟨RX0, TX0, 4, rfl, by decide, zi_9 (List.mem_of_getElem? (i := 6) rfl)⟩, List.forall_mem_cons.mpr ⟨⟨RX2, TX2, 10, rfl, by decide, zi_8 (List.mem_of_getElem? (i := 1) rfl)⟩, fun _ h => absurd h List.not_mem_nil⟩⟩⟩⟩⟩⟩⟩⟩⟩⟩⟩⟩⟩⟩⟩⟩⟩
def zFT_2 : List (Nat × Nat × Nat) := [(9, 2, 0), (15, 2, 1), (18, 2, 2), (21, 2, 3), (24, 2, 4), (27, 2, 5), (30, 2, 6), (33, 2, 8), (51, 2, 7), (66, 2, 9)]
set_option maxRecDepth 100000 in
theorem zFT_2_ok : ∀ q ∈ zFT_2, ∃ (C : String) (T : u_T) (N : Nat), zcl[q.2.1]? = some (C, T, N) ∧ q.2.2 < N ∧ Cond.fieldLink (zon 2) q.1 (T q.2.2).1 (T q.2.2).2.1 (T q.2.2).2.2.1 ∈ zTb := List.forall_mem_cons.mpr ⟨⟨RX2, TX2, 10, rfl, by decide, zi_6 (List.mem_of_getElem? (i := 13) rfl)⟩, List.forall_mem_cons.mpr ⟨⟨RX2, TX2, 10, rfl, by decide, zi_7 (List.mem_of_getElem? (i := 0) rfl)⟩, List.forall_mem_cons.mpr ⟨⟨RX2, TX2, 10, rfl, by decide, zi_7 (List.mem_of_getElem? (i := 3) rfl)⟩, List.forall_mem_cons.mpr ⟨⟨RX2, TX2, 10, rfl, by decide, zi_7 (List.mem_of_getElem? (i := 6) rfl)⟩, List.forall_mem_cons.mpr ⟨⟨RX2, TX2, 10, rfl, by decide, zi_7 (List.mem_of_getElem? (i := 8) rfl)⟩, List.forall_mem_cons.mpr ⟨⟨RX2, TX2, 10, rfl, by decide, zi_7 (List.mem_of_getElem? (i := 10) rfl)⟩, List.forall_mem_cons.mpr ⟨⟨RX2, TX2, 10, rfl, by decide, zi_7 (List.mem_of_getElem? (i := 13) rfl)⟩, List.forall_mem_cons.mpr ⟨⟨RX2, TX2, 10, rfl, by decide, zi_7 (List.mem_of_getElem? (i := 15) rfl)⟩, List.forall_mem_cons.mpr ⟨⟨RX2, TX2, 10, rfl, by decide, zi_7 (List.mem_of_getElem? (i := 14) rfl)⟩, List.forall_mem_cons.mpr ⟨⟨RX2, TX2, 10, rfl, by decide, zi_8 (List.mem_of_getElem? (i := 2) rfl)⟩, fun _ h => absurd h List.not_mem_nil⟩⟩⟩⟩⟩⟩⟩⟩⟩⟩
def zFT_3 : List (Nat × Nat × Nat) := [(14, 3, 0), (20, 3, 1), (24, 5, 1), (28, 5, 0)]
set_option maxRecDepth 100000 in
theorem zFT_3_ok : ∀ q ∈ zFT_3, ∃ (C : String) (T : u_T) (N : Nat), zcl[q.2.1]? = some (C, T, N) ∧ q.2.2 < N ∧ Cond.fieldLink (zon 3) q.1 (T q.2.2).1 (T q.2.2).2.1 (T q.2.2).2.2.1 ∈ zTb := List.forall_mem_cons.mpr ⟨⟨RX3, TX3, 2, rfl, by decide, zi_11 (List.mem_of_getElem? (i := 15) rfl)⟩, List.forall_mem_cons.mpr ⟨⟨RX3, TX3, 2, rfl, by decide, zi_12 (List.mem_of_getElem? (i := 2) rfl)⟩, List.forall_mem_cons.mpr ⟨⟨RX5, TX5, 2, rfl, by decide, zi_11 (List.mem_of_getElem? (i := 10) rfl)⟩, List.forall_mem_cons.mpr ⟨⟨RX5, TX5, 2, rfl, by decide, zi_11 (List.mem_of_getElem? (i := 5) rfl)⟩, fun _ h => absurd h List.not_mem_nil⟩⟩⟩⟩
def zFT_4 : List (Nat × Nat × Nat) := [(14, 4, 0), (20, 4, 1), (23, 4, 2), (27, 4, 3), (30, 4, 4), (33, 5, 1), (72, 5, 0)]
set_option maxRecDepth 100000 in
theorem zFT_4_ok : ∀ q ∈ zFT_4, ∃ (C : String) (T : u_T) (N : Nat), zcl[q.2.1]? = some (C, T, N) ∧ q.2.2 < N ∧ Cond.fieldLink (zon 4) q.1 (T q.2.2).1 (T q.2.2).2.1 (T q.2.2).2.2.1 ∈ zTb := List.forall_mem_cons.mpr ⟨⟨RX4, TX4, 5, rfl, by decide, zi_16 (List.mem_of_getElem? (i := 3) rfl)⟩, List.forall_mem_cons.mpr ⟨⟨RX4, TX4, 5, rfl, by decide, zi_16 (List.mem_of_getElem? (i := 5) rfl)⟩, List.forall_mem_cons.mpr ⟨⟨RX4, TX4, 5, rfl, by decide, zi_16 (List.mem_of_getElem? (i := 6) rfl)⟩, List.forall_mem_cons.mpr ⟨⟨RX4, TX4, 5, rfl, by decide, zi_16 (List.mem_of_getElem? (i := 7) rfl)⟩, List.forall_mem_cons.mpr ⟨⟨RX4, TX4, 5, rfl, by decide, zi_16 (List.mem_of_getElem? (i := 8) rfl)⟩, List.forall_mem_cons.mpr ⟨⟨RX5, TX5, 2, rfl, by decide, zi_11 (List.mem_of_getElem? (i := 11) rfl)⟩, List.forall_mem_cons.mpr ⟨⟨RX5, TX5, 2, rfl, by decide, zi_11 (List.mem_of_getElem? (i := 6) rfl)⟩, fun _ h => absurd h List.not_mem_nil⟩⟩⟩⟩⟩⟩⟩
def zFT_5 : List (Nat × Nat × Nat) := [(13, 5, 0), (19, 5, 1)]
set_option maxRecDepth 100000 in
theorem zFT_5_ok : ∀ q ∈ zFT_5, ∃ (C : String) (T : u_T) (N : Nat), zcl[q.2.1]? = some (C, T, N) ∧ q.2.2 < N ∧ Cond.fieldLink (zon 5) q.1 (T q.2.2).1 (T q.2.2).2.1 (T q.2.2).2.2.1 ∈ zTb := List.forall_mem_cons.mpr ⟨⟨RX5, TX5, 2, rfl, by decide, zi_11 (List.mem_of_getElem? (i := 4) rfl)⟩, List.forall_mem_cons.mpr ⟨⟨RX5, TX5, 2, rfl, by decide, zi_11 (List.mem_of_getElem? (i := 8) rfl)⟩, fun _ h => absurd h List.not_mem_nil⟩⟩
def zFT_6 : List (Nat × Nat × Nat) := [(12, 6, 0), (21, 6, 1), (28, 6, 2), (32, 6, 3), (40, 6, 4), (44, 6, 5), (47, 6, 6), (59, 3, 0)]
set_option maxRecDepth 100000 in
theorem zFT_6_ok : ∀ q ∈ zFT_6, ∃ (C : String) (T : u_T) (N : Nat), zcl[q.2.1]? = some (C, T, N) ∧ q.2.2 < N ∧ Cond.fieldLink (zon 6) q.1 (T q.2.2).1 (T q.2.2).2.1 (T q.2.2).2.2.1 ∈ zTb := List.forall_mem_cons.mpr ⟨⟨RX6, TX6, 7, rfl, by decide, zi_12 (List.mem_of_getElem? (i := 7) rfl)⟩, List.forall_mem_cons.mpr ⟨⟨RX6, TX6, 7, rfl, by decide, zi_12 (List.mem_of_getElem? (i := 9) rfl)⟩, List.forall_mem_cons.mpr ⟨⟨RX6, TX6, 7, rfl, by decide, zi_12 (List.mem_of_getElem? (i := 11) rfl)⟩, List.forall_mem_cons.mpr ⟨⟨RX6, TX6, 7, rfl, by decide, zi_12 (List.mem_of_getElem? (i := 13) rfl)⟩, List.forall_mem_cons.mpr ⟨⟨RX6, TX6, 7, rfl, by decide, zi_12 (List.mem_of_getElem? (i := 15) rfl)⟩, List.forall_mem_cons.mpr ⟨⟨RX6, TX6, 7, rfl, by decide, zi_13 (List.mem_of_getElem? (i := 1) rfl)⟩, List.forall_mem_cons.mpr ⟨⟨RX6, TX6, 7, rfl, by decide, zi_13 (List.mem_of_getElem? (i := 3) rfl)⟩, List.forall_mem_cons.mpr ⟨⟨RX3, TX3, 2, rfl, by decide, zi_12 (List.mem_of_getElem? (i := 0) rfl)⟩, fun _ h => absurd h List.not_mem_nil⟩⟩⟩⟩⟩⟩⟩⟩
def zFT_7 : List (Nat × Nat × Nat) := [(9, 7, 0), (15, 7, 1), (19, 7, 2)]
set_option maxRecDepth 100000 in
theorem zFT_7_ok : ∀ q ∈ zFT_7, ∃ (C : String) (T : u_T) (N : Nat), zcl[q.2.1]? = some (C, T, N) ∧ q.2.2 < N ∧ Cond.fieldLink (zon 7) q.1 (T q.2.2).1 (T q.2.2).2.1 (T q.2.2).2.2.1 ∈ zTb := List.forall_mem_cons.mpr ⟨⟨RX7, TX7, 3, rfl, by decide, zi_19 (List.mem_of_getElem? (i := 1) rfl)⟩, List.forall_mem_cons.mpr ⟨⟨RX7, TX7, 3, rfl, by decide, zi_19 (List.mem_of_getElem? (i := 3) rfl)⟩, List.forall_mem_cons.mpr ⟨⟨RX7, TX7, 3, rfl, by decide, zi_19 (List.mem_of_getElem? (i := 5) rfl)⟩, fun _ h => absurd h List.not_mem_nil⟩⟩⟩
def zFT_8 : List (Nat × Nat × Nat) := [(14, 8, 0), (20, 5, 1), (24, 0, 0), (30, 8, 1), (32, 8, 2), (35, 0, 1), (38, 8, 3)]
set_option maxRecDepth 100000 in
theorem zFT_8_ok : ∀ q ∈ zFT_8, ∃ (C : String) (T : u_T) (N : Nat), zcl[q.2.1]? = some (C, T, N) ∧ q.2.2 < N ∧ Cond.fieldLink (zon 8) q.1 (T q.2.2).1 (T q.2.2).2.1 (T q.2.2).2.2.1 ∈ zTb := List.forall_mem_cons.mpr ⟨⟨RX8, TX8, 4, rfl, by decide, zi_18 (List.mem_of_getElem? (i := 3) rfl)⟩, List.forall_mem_cons.mpr ⟨⟨RX5, TX5, 2, rfl, by decide, zi_11 (List.mem_of_getElem? (i := 9) rfl)⟩, List.forall_mem_cons.mpr ⟨⟨RX0, TX0, 4, rfl, by decide, zi_9 (List.mem_of_getElem? (i := 5) rfl)⟩, List.forall_mem_cons.mpr ⟨⟨RX8, TX8, 4, rfl, by decide, zi_18 (List.mem_of_getElem? (i := 5) rfl)⟩, List.forall_mem_cons.mpr ⟨⟨RX8, TX8, 4, rfl, by decide, zi_18 (List.mem_of_getElem? (i := 6) rfl)⟩, List.forall_mem_cons.mpr ⟨⟨RX0, TX0, 4, rfl, by decide, zi_9 (List.mem_of_getElem? (i := 9) rfl)⟩, List.forall_mem_cons.mpr ⟨⟨RX8, TX8, 4, rfl, by decide, zi_18 (List.mem_of_getElem? (i := 7) rfl)⟩, fun _ h => absurd h List.not_mem_nil⟩⟩⟩⟩⟩⟩⟩
def zFT_9 : List (Nat × Nat × Nat) := [(9, 9, 1), (15, 9, 2), (18, 9, 3), (21, 9, 0), (51, 2, 1), (54, 2, 0)]
set_option maxRecDepth 100000 in
theorem zFT_9_ok : ∀ q ∈ zFT_9, ∃ (C : String) (T : u_T) (N : Nat), zcl[q.2.1]? = some (C, T, N) ∧ q.2.2 < N ∧ Cond.fieldLink (zon 9) q.1 (T q.2.2).1 (T q.2.2).2.1 (T q.2.2).2.2.1 ∈ zTb := List.forall_mem_cons.mpr ⟨⟨RX9, TX9, 4, rfl, by decide, zi_17 (List.mem_of_getElem? (i := 5) rfl)⟩, List.forall_mem_cons.mpr ⟨⟨RX9, TX9, 4, rfl, by decide, zi_17 (List.mem_of_getElem? (i := 6) rfl)⟩, List.forall_mem_cons.mpr ⟨⟨RX9, TX9, 4, rfl, by decide, zi_17 (List.mem_of_getElem? (i := 7) rfl)⟩, List.forall_mem_cons.mpr ⟨⟨RX9, TX9, 4, rfl, by decide, zi_17 (List.mem_of_getElem? (i := 4) rfl)⟩, List.forall_mem_cons.mpr ⟨⟨RX2, TX2, 10, rfl, by decide, zi_7 (List.mem_of_getElem? (i := 1) rfl)⟩, List.forall_mem_cons.mpr ⟨⟨RX2, TX2, 10, rfl, by decide, zi_6 (List.mem_of_getElem? (i := 15) rfl)⟩, fun _ h => absurd h List.not_mem_nil⟩⟩⟩⟩⟩⟩
def zFT_10 : List (Nat × Nat × Nat) := [(12, 10, 0), (16, 10, 1), (21, 6, 0), (25, 6, 1), (29, 6, 2), (33, 6, 3), (39, 10, 2), (49, 10, 3), (54, 6, 4), (61, 10, 4), (70, 10, 5), (77, 10, 6), (83, 10, 7), (87, 10, 8), (101, 2, 0), (108, 2, 1), (114, 2, 2), (121, 2, 3), (124, 2, 4), (127, 2, 5), (136, 2, 8), (140, 0, 3), (144, 0, 0), (147, 0, 1), (150, 0, 2), (171, 5, 1), (184, 3, 0), (189, 4, 0), (197, 2, 9), (216, 1, 0), (218, 1, 1), (219, 7, 1), (243, 6, 6), (250, 8, 0), (253, 5, 0), (259, 7, 2), (266, 7, 0), (281, 10, 9), (284, 6, 5)]
set_option maxRecDepth 100000 in
theorem zFT_10_ok : ∀ q ∈ zFT_10, ∃ (C : String) (T : u_T) (N : Nat), zcl[q.2.1]? = some (C, T, N) ∧ q.2.2 < N ∧ Cond.fieldLink (zon 10) q.1 (T q.2.2).1 (T q.2.2).2.1 (T q.2.2).2.2.1 ∈ zTb := List.forall_mem_cons.mpr ⟨⟨RX10, TX10, 10, rfl, by decide, zi_19 (List.mem_of_getElem? (i := 10) rfl)⟩, List.forall_mem_cons.mpr ⟨⟨RX10, TX10, 10, rfl, by decide, zi_19 (List.mem_of_getElem? (i := 11) rfl)⟩, List.forall_mem_cons.mpr ⟨⟨RX6, TX6, 7, rfl, by decide, zi_12 (List.mem_of_getElem? (i := 8) rfl)⟩, List.forall_mem_cons.mpr ⟨⟨RX6, TX6, 7, rfl, by decide, zi_12 (List.mem_of_getElem? (i := 10) rfl)⟩, List.forall_mem_cons.mpr ⟨⟨RX6, TX6, 7, rfl, by decide, zi_12 (List.mem_of_getElem? (i := 12) rfl)⟩, List.forall_mem_cons.mpr ⟨⟨RX6, TX6, 7, rfl, by decide, zi_12 (List.mem_of_getElem? (i := 14) rfl)⟩, List.forall_mem_cons.mpr ⟨⟨RX10, TX10, 10, rfl, by decide, zi_19 (List.mem_of_getElem? (i := 12) rfl)⟩, List.forall_mem_cons.mpr ⟨⟨RX10, TX10, 10, rfl, by decide, zi_19 (List.mem_of_getElem? (i := 13) rfl)⟩, List.forall_mem_cons.mpr ⟨⟨RX6, TX6, 7, rfl, by decide, zi_13 (List.mem_of_getElem? (i := 0) rfl)⟩, List.forall_mem_cons.mpr ⟨⟨RX10, TX10, 10, rfl, by decide, zi_19 (List.mem_of_getElem? (i := 14) rfl)⟩, List.forall_mem_cons.mpr ⟨⟨RX10, TX10, 10, rfl, by decide, zi_19 (List.mem_of_getElem? (i := 15) rfl)⟩, List.forall_mem_cons.mpr ⟨⟨RX10, TX10, 10, rfl, by decide, zi_20 (List.mem_of_getElem? (i := 0) rfl)⟩, List.forall_mem_cons.mpr ⟨⟨RX10, TX10, 10, rfl, by decide, zi_20 (List.mem_of_getElem? (i := 1) rfl)⟩, List.forall_mem_cons.mpr ⟨⟨RX10, TX10, 10, rfl, by decide, zi_20 (List.mem_of_getElem? (i := 2) rfl)⟩, List.forall_mem_cons.mpr ⟨⟨RX2, TX2, 10, rfl, by decide, zi_6 (List.mem_of_getElem? (i := 14) rfl)⟩, List.forall_mem_cons.mpr ⟨⟨RX2, TX2, 10, rfl, by decide, zi_7 (List.mem_of_getElem? (i := 2) rfl)⟩, List.forall_mem_cons.mpr ⟨⟨RX2, TX2, 10, rfl, by decide, zi_7 (List.mem_of_getElem? (i := 5) rfl)⟩, List.forall_mem_cons.mpr ⟨⟨RX2, TX2, 10, rfl, by decide, zi_7 (List.mem_of_getElem? (i := 7) rfl)⟩, List.forall_mem_cons.mpr ⟨⟨RX2, TX2, 10, rfl, by decide, zi_7 (List.mem_of_getElem? (i := 9) rfl)⟩, List.forall_mem_cons.mpr ⟨⟨RX2, TX2, 10, rfl, by decide, zi_7 (List.mem_of_getElem? (i := 12) rfl)⟩, List.forall_mem_cons.mpr ⟨⟨RX2, TX2, 10, rfl, by decide, zi_8 (List.mem_of_getElem? (i := 0) rfl)⟩, List.forall_mem_cons.mpr ⟨⟨RX0, TX0, 4, rfl, by decide, zi_10 (List.mem_of_getElem? (i := 1) rfl)⟩, List.forall_mem_cons.mpr ⟨⟨RX0, TX0, 4, rfl, by decide, zi_9 (List.mem_of_getElem? (i := 7) rfl)⟩, List.forall_mem_cons.mpr ⟨⟨RX0, TX0, 4, rfl, by decide, zi_9 (List.mem_of_getElem? (i := 11) rfl)⟩, List.forall_mem_cons.mpr ⟨⟨RX0, TX0, 4, rfl, by decide, zi_9 (List.mem_of_getElem? (i := 14) rfl)⟩, List.forall_mem_cons.mpr ⟨⟨RX5, TX5, 2, rfl, by decide, zi_11 (List.mem_of_getElem? (i := 12) rfl)⟩, List.forall_mem_cons.mpr ⟨⟨RX3, TX3, 2, rfl, by decide, zi_12 (List.mem_of_getElem? (i := 1) rfl)⟩, List.forall_mem_cons.mpr ⟨⟨RX4, TX4, 5, rfl, by decide, zi_16 (List.mem_of_getElem? (i := 4) rfl)⟩, List.forall_mem_cons.mpr ⟨⟨RX2, TX2, 10, rfl, by decide, zi_8 (List.mem_of_getElem? (i := 3) rfl)⟩, List.forall_mem_cons.mpr ⟨⟨RX1, TX1, 10, rfl, by decide, zi_14 (List.mem_of_getElem? (i := 3) rfl)⟩, List.forall_mem_cons.mpr ⟨⟨RX1, TX1, 10, rfl, by decide, zi_14 (List.mem_of_getElem? (i := 5) rfl)⟩, List.forall_mem_cons.mpr ⟨⟨RX7, TX7, 3, rfl, by decide, zi_19 (List.mem_of_getElem? (i := 4) rfl)⟩, List.forall_mem_cons.mpr ⟨⟨RX6, TX6, 7, rfl, by decide, zi_13 (List.mem_of_getElem? (i := 4) rfl)⟩, List.forall_mem_cons.mpr ⟨⟨RX8, TX8, 4, rfl, by decide, zi_18 (List.mem_of_getElem? (i := 4) rfl)⟩, List.forall_mem_cons.mpr ⟨⟨RX5, TX5, 2, rfl, by decide, zi_11 (List.mem_of_getElem? (i := 7) rfl)⟩, List.forall_mem_cons.mpr ⟨⟨RX7, TX7, 3, rfl, by decide, zi_19 (List.mem_of_getElem? (i := 6) rfl)⟩, List.forall_mem_cons.mpr ⟨⟨RX7, TX7, 3, rfl, by decide, zi_19 (List.mem_of_getElem? (i := 2) rfl)⟩, List.forall_mem_cons.mpr ⟨⟨RX10, TX10, 10, rfl, by decide, zi_20 (List.mem_of_getElem? (i := 3) rfl)⟩, List.forall_mem_cons.mpr ⟨⟨RX6, TX6, 7, rfl, by decide, zi_13 (List.mem_of_getElem? (i := 2) rfl)⟩, fun _ h => absurd h List.not_mem_nil⟩⟩⟩⟩⟩⟩⟩⟩⟩⟩⟩⟩⟩⟩⟩⟩⟩⟩⟩⟩⟩⟩⟩⟩⟩⟩⟩⟩⟩⟩⟩⟩⟩⟩⟩⟩⟩⟩⟩
def zFT_11 : List (Nat × Nat × Nat) := [(7, 11, 0), (13, 11, 1), (16, 11, 2), (19, 11, 4), (22, 11, 11), (25, 11, 12), (28, 11, 14), (31, 11, 15), (35, 11, 16), (38, 11, 17), (41, 11, 18), (44, 11, 21), (47, 11, 22), (50, 11, 23), (53, 11, 24), (67, 11, 6), (70, 11, 7), (73, 11, 8), (76, 11, 5), (83, 11, 10), (87, 11, 13), (113, 11, 9), (295, 11, 19), (301, 11, 20), (316, 11, 3)]
set_option maxRecDepth 100000 in
theorem zFT_11_ok : ∀ q ∈ zFT_11, ∃ (C : String) (T : u_T) (N : Nat), zcl[q.2.1]? = some (C, T, N) ∧ q.2.2 < N ∧ Cond.fieldLink (zon 11) q.1 (T q.2.2).1 (T q.2.2).2.1 (T q.2.2).2.2.1 ∈ zTb := List.forall_mem_cons.mpr ⟨⟨RX11, TX11, 25, rfl, by decide, zi_48 (List.mem_of_getElem? (i := 11) rfl)⟩, List.forall_mem_cons.mpr ⟨⟨RX11, TX11, 25, rfl, by decide, zi_48 (List.mem_of_getElem? (i := 12) rfl)⟩, List.forall_mem_cons.mpr ⟨⟨RX11, TX11, 25, rfl, by decide, zi_48 (List.mem_of_getElem? (i := 13) rfl)⟩, List.forall_mem_cons.mpr ⟨⟨RX11, TX11, 25, rfl, by decide, zi_48 (List.mem_of_getElem? (i := 15) rfl)⟩, List.forall_mem_cons.mpr ⟨⟨RX11, TX11, 25, rfl, by decide, zi_49 (List.mem_of_getElem? (i := 6) rfl)⟩, List.forall_mem_cons.mpr ⟨⟨RX11, TX11, 25, rfl, by decide, zi_49 (List.mem_of_getElem? (i := 7) rfl)⟩, List.forall_mem_cons.mpr ⟨⟨RX11, TX11, 25, rfl, by decide, zi_49 (List.mem_of_getElem? (i := 9) rfl)⟩, List.forall_mem_cons.mpr ⟨⟨RX11, TX11, 25, rfl, by decide, zi_49 (List.mem_of_getElem? (i := 10) rfl)⟩, List.forall_mem_cons.mpr ⟨⟨RX11, TX11, 25, rfl, by decide, zi_49 (List.mem_of_getElem? (i := 11) rfl)⟩, List.forall_mem_cons.mpr ⟨⟨RX11, TX11, 25, rfl, by decide, zi_49 (List.mem_of_getElem? (i := 12) rfl)⟩, List.forall_mem_cons.mpr ⟨⟨RX11, TX11, 25, rfl, by decide, zi_49 (List.mem_of_getElem? (i := 13) rfl)⟩, List.forall_mem_cons.mpr ⟨⟨RX11, TX11, 25, rfl, by decide, zi_50 (List.mem_of_getElem? (i := 0) rfl)⟩, List.forall_mem_cons.mpr ⟨⟨RX11, TX11, 25, rfl, by decide, zi_50 (List.mem_of_getElem? (i := 1) rfl)⟩, List.forall_mem_cons.mpr ⟨⟨RX11, TX11, 25, rfl, by decide, zi_50 (List.mem_of_getElem? (i := 2) rfl)⟩, List.forall_mem_cons.mpr ⟨⟨RX11, TX11, 25, rfl, by decide, zi_50 (List.mem_of_getElem? (i := 3) rfl)⟩, List.forall_mem_cons.mpr ⟨⟨RX11, TX11, 25, rfl, by decide, zi_49 (List.mem_of_getElem? (i := 1) rfl)⟩, List.forall_mem_cons.mpr ⟨⟨RX11, TX11, 25, rfl, by decide, zi_49 (List.mem_of_getElem? (i := 2) rfl)⟩, List.forall_mem_cons.mpr ⟨⟨RX11, TX11, 25, rfl, by decide, zi_49 (List.mem_of_getElem? (i := 3) rfl)⟩, List.forall_mem_cons.mpr ⟨⟨RX11, TX11, 25, rfl, by decide, zi_49 (List.mem_of_getElem? (i := 0) rfl)⟩, List.forall_mem_cons.mpr ⟨⟨RX11, TX11, 25, rfl, by decide, zi_49 (List.mem_of_getElem? (i := 5) rfl)⟩, List.forall_mem_cons.mpr ⟨⟨RX11, TX11, 25, rfl, by decide, zi_49 (List.mem_of_getElem? (i := 8) rfl)⟩, List.forall_mem_cons.mpr ⟨⟨RX11, TX11, 25, rfl, by decide, zi_49 (List.mem_of_getElem? (i := 4) rfl)⟩, List.forall_mem_cons.mpr ⟨⟨RX11, TX11, 25, rfl, by decide, zi_49 (List.mem_of_getElem? (i := 14) rfl)⟩, List.forall_mem_cons.mpr ⟨⟨RX11, TX11, 25, rfl, by decide, zi_49 (List.mem_of_getElem? (i := 15) rfl)⟩, List.forall_mem_cons.mpr ⟨⟨RX11, TX11, 25, rfl, by decide, zi_48 (List.mem_of_getElem? (i := 14) rfl)⟩, fun _ h => absurd h List.not_mem_nil⟩⟩⟩⟩⟩⟩⟩⟩⟩⟩⟩⟩⟩⟩⟩⟩⟩⟩⟩⟩⟩⟩⟩⟩⟩
def zFT_12 : List (Nat × Nat × Nat) := []
set_option maxRecDepth 100000 in
theorem zFT_12_ok : ∀ q ∈ zFT_12, ∃ (C : String) (T : u_T) (N : Nat), zcl[q.2.1]? = some (C, T, N) ∧ q.2.2 < N ∧ Cond.fieldLink (zon 12) q.1 (T q.2.2).1 (T q.2.2).2.1 (T q.2.2).2.2.1 ∈ zTb := fun _ h => absurd h List.not_mem_nil
def zFT_13 : List (Nat × Nat × Nat) := []
set_option maxRecDepth 100000 in
theorem zFT_13_ok : ∀ q ∈ zFT_13, ∃ (C : String) (T : u_T) (N : Nat), zcl[q.2.1]? = some (C, T, N) ∧ q.2.2 < N ∧ Cond.fieldLink (zon 13) q.1 (T q.2.2).1 (T q.2.2).2.1 (T q.2.2).2.2.1 ∈ zTb := fun _ h => absurd h List.not_mem_nil
def zFT : Nat → List (Nat × Nat × Nat) := fun o => match o with
  | 0 => zFT_0
  | 1 => zFT_1
  | 2 => zFT_2
  | 3 => zFT_3
  | 4 => zFT_4
  | 5 => zFT_5
  | 6 => zFT_6
  | 7 => zFT_7
  | 8 => zFT_8
  | 9 => zFT_9
  | 10 => zFT_10
  | 11 => zFT_11
  | 12 => zFT_12
  | 13 => zFT_13
  | _ => []
theorem zFT_ok : ∀ o, ∀ q ∈ zFT o, ∃ (C : String) (T : u_T) (N : Nat), zcl[q.2.1]? = some (C, T, N) ∧ q.2.2 < N ∧ Cond.fieldLink (zon o) q.1 (T q.2.2).1 (T q.2.2).2.1 (T q.2.2).2.2.1 ∈ zTb := fun o => match o with
  | 0 => zFT_0_ok
  | 1 => zFT_1_ok
  | 2 => zFT_2_ok
  | 3 => zFT_3_ok
  | 4 => zFT_4_ok
  | 5 => zFT_5_ok
  | 6 => zFT_6_ok
  | 7 => zFT_7_ok
  | 8 => zFT_8_ok
  | 9 => zFT_9_ok
  | 10 => zFT_10_ok
  | 11 => zFT_11_ok
  | 12 => zFT_12_ok
  | 13 => zFT_13_ok
  | _ + 14 => fun _ h => absurd h List.not_mem_nil
def zMT_0 : List (Nat × Nat) := []
set_option maxRecDepth 100000 in
theorem zMT_0_ok : ∀ q ∈ zMT_0, Cond.methodLink (zon 0) q.1 (zm q.2).1 ∈ zTb ∨ Cond.methodLinkNest (zon 0) q.1 (zm q.2).1 RX10 ∈ zNest := fun _ h => absurd h List.not_mem_nil
def zMT_1 : List (Nat × Nat) := [(35, 5), (39, 22), (43, 23), (46, 6), (50, 223), (65, 7), (68, 13), (71, 21), (103, 9), (107, 10), (110, 11), (113, 12), (120, 8), (123, 14), (126, 26)]
set_option maxRecDepth 100000 in
theorem zMT_1_ok : ∀ q ∈ zMT_1, Cond.methodLink (zon 1) q.1 (zm q.2).1 ∈ zTb ∨ Cond.methodLinkNest (zon 1) q.1 (zm q.2).1 RX10 ∈ zNest := List.forall_mem_cons.mpr ⟨Or.inl (zi_33 (List.mem_of_getElem? (i := 7) rfl)), List.forall_mem_cons.mpr ⟨Or.inl (zi_33 (List.mem_of_getElem? (i := 8) rfl)), List.forall_mem_cons.mpr ⟨Or.inl (zi_34 (List.mem_of_getElem? (i := 1) rfl)), List.forall_mem_cons.mpr ⟨Or.inl (zi_23 (List.mem_of_getElem? (i := 7) rfl)), List.forall_mem_cons.mpr ⟨Or.inl (zi_24 (List.mem_of_getElem? (i := 2) rfl)), List.forall_mem_cons.mpr ⟨Or.inl (zi_24 (List.mem_of_getElem? (i := 5) rfl)), List.forall_mem_cons.mpr ⟨Or.inl (zi_25 (List.mem_of_getElem? (i := 8) rfl)), List.forall_mem_cons.mpr ⟨Or.inl (zi_23 (List.mem_of_getElem? (i := 11) rfl)), List.forall_mem_cons.mpr ⟨Or.inl (zi_24 (List.mem_of_getElem? (i := 9) rfl)), List.forall_mem_cons.mpr ⟨Or.inl (zi_24 (List.mem_of_getElem? (i := 15) rfl)), List.forall_mem_cons.mpr ⟨Or.inl (zi_25 (List.mem_of_getElem? (i := 5) rfl)), List.forall_mem_cons.mpr ⟨Or.inl (zi_25 (List.mem_of_getElem? (i := 2) rfl)), List.forall_mem_cons.mpr ⟨Or.inl (zi_24 (List.mem_of_getElem? (i := 12) rfl)), List.forall_mem_cons.mpr ⟨Or.inl (zi_25 (List.mem_of_getElem? (i := 12) rfl)), List.forall_mem_cons.mpr ⟨Or.inl (zi_25 (List.mem_of_getElem? (i := 15) rfl)), fun _ h => absurd h List.not_mem_nil⟩⟩⟩⟩⟩⟩⟩⟩⟩⟩⟩⟩⟩⟩⟩
def zMT_2 : List (Nat × Nat) := [(37, 20), (47, 17), (54, 16), (57, 26)]
set_option maxRecDepth 100000 in
theorem zMT_2_ok : ∀ q ∈ zMT_2, Cond.methodLink (zon 2) q.1 (zm q.2).1 ∈ zTb ∨ Cond.methodLinkNest (zon 2) q.1 (zm q.2).1 RX10 ∈ zNest := List.forall_mem_cons.mpr ⟨Or.inl (zi_6 (List.mem_of_getElem? (i := 9) rfl)), List.forall_mem_cons.mpr ⟨Or.inl (zi_34 (List.mem_of_getElem? (i := 9) rfl)), List.forall_mem_cons.mpr ⟨Or.inl (zi_33 (List.mem_of_getElem? (i := 12) rfl)), List.forall_mem_cons.mpr ⟨Or.inl (zi_33 (List.mem_of_getElem? (i := 15) rfl)), fun _ h => absurd h List.not_mem_nil⟩⟩⟩⟩
def zMT_3 : List (Nat × Nat) := [(11, 40), (31, 27), (35, 28)]
set_option maxRecDepth 100000 in
theorem zMT_3_ok : ∀ q ∈ zMT_3, Cond.methodLink (zon 3) q.1 (zm q.2).1 ∈ zTb ∨ Cond.methodLinkNest (zon 3) q.1 (zm q.2).1 RX10 ∈ zNest := List.forall_mem_cons.mpr ⟨Or.inl (zi_10 (List.mem_of_getElem? (i := 13) rfl)), List.forall_mem_cons.mpr ⟨Or.inl (zi_26 (List.mem_of_getElem? (i := 3) rfl)), List.forall_mem_cons.mpr ⟨Or.inl (zi_26 (List.mem_of_getElem? (i := 6) rfl)), fun _ h => absurd h List.not_mem_nil⟩⟩⟩
def zMT_4 : List (Nat × Nat) := [(11, 40), (36, 31), (40, 36), (43, 32), (46, 35), (50, 39), (56, 41), (60, 37), (63, 33), (66, 38), (69, 34)]
set_option maxRecDepth 100000 in
theorem zMT_4_ok : ∀ q ∈ zMT_4, Cond.methodLink (zon 4) q.1 (zm q.2).1 ∈ zTb ∨ Cond.methodLinkNest (zon 4) q.1 (zm q.2).1 RX10 ∈ zNest := List.forall_mem_cons.mpr ⟨Or.inl (zi_16 (List.mem_of_getElem? (i := 2) rfl)), List.forall_mem_cons.mpr ⟨Or.inl (zi_30 (List.mem_of_getElem? (i := 1) rfl)), List.forall_mem_cons.mpr ⟨Or.inl (zi_31 (List.mem_of_getElem? (i := 8) rfl)), List.forall_mem_cons.mpr ⟨Or.inl (zi_30 (List.mem_of_getElem? (i := 4) rfl)), List.forall_mem_cons.mpr ⟨Or.inl (zi_30 (List.mem_of_getElem? (i := 7) rfl)), List.forall_mem_cons.mpr ⟨Or.inl (zi_31 (List.mem_of_getElem? (i := 11) rfl)), List.forall_mem_cons.mpr ⟨Or.inl (zi_31 (List.mem_of_getElem? (i := 0) rfl)), List.forall_mem_cons.mpr ⟨Or.inl (zi_30 (List.mem_of_getElem? (i := 10) rfl)), List.forall_mem_cons.mpr ⟨Or.inl (zi_30 (List.mem_of_getElem? (i := 13) rfl)), List.forall_mem_cons.mpr ⟨Or.inl (zi_31 (List.mem_of_getElem? (i := 1) rfl)), List.forall_mem_cons.mpr ⟨Or.inl (zi_31 (List.mem_of_getElem? (i := 5) rfl)), fun _ h => absurd h List.not_mem_nil⟩⟩⟩⟩⟩⟩⟩⟩⟩⟩⟩
def zMT_5 : List (Nat × Nat) := []
set_option maxRecDepth 100000 in
theorem zMT_5_ok : ∀ q ∈ zMT_5, Cond.methodLink (zon 5) q.1 (zm q.2).1 ∈ zTb ∨ Cond.methodLinkNest (zon 5) q.1 (zm q.2).1 RX10 ∈ zNest := fun _ h => absurd h List.not_mem_nil
def zMT_6 : List (Nat × Nat) := [(11, 15), (20, 0), (27, 25), (37, 40), (52, 24), (56, 2), (62, 42)]
set_option maxRecDepth 100000 in
theorem zMT_6_ok : ∀ q ∈ zMT_6, Cond.methodLink (zon 6) q.1 (zm q.2).1 ∈ zTb ∨ Cond.methodLinkNest (zon 6) q.1 (zm q.2).1 RX10 ∈ zNest := List.forall_mem_cons.mpr ⟨Or.inl (zi_6 (List.mem_of_getElem? (i := 5) rfl)), List.forall_mem_cons.mpr ⟨Or.inr (List.mem_of_getElem? (i := 1) rfl), List.forall_mem_cons.mpr ⟨Or.inr (List.mem_of_getElem? (i := 2) rfl), List.forall_mem_cons.mpr ⟨Or.inl (zi_12 (List.mem_of_getElem? (i := 6) rfl)), List.forall_mem_cons.mpr ⟨Or.inl (zi_46 (List.mem_of_getElem? (i := 8) rfl)), List.forall_mem_cons.mpr ⟨Or.inl (zi_46 (List.mem_of_getElem? (i := 9) rfl)), List.forall_mem_cons.mpr ⟨Or.inl (zi_46 (List.mem_of_getElem? (i := 10) rfl)), fun _ h => absurd h List.not_mem_nil⟩⟩⟩⟩⟩⟩⟩
def zMT_7 : List (Nat × Nat) := [(22, 223)]
set_option maxRecDepth 100000 in
theorem zMT_7_ok : ∀ q ∈ zMT_7, Cond.methodLink (zon 7) q.1 (zm q.2).1 ∈ zTb ∨ Cond.methodLinkNest (zon 7) q.1 (zm q.2).1 RX10 ∈ zNest := List.forall_mem_cons.mpr ⟨Or.inl (zi_44 (List.mem_of_getElem? (i := 5) rfl)), fun _ h => absurd h List.not_mem_nil⟩
def zMT_8 : List (Nat × Nat) := [(11, 40), (40, 53), (50, 41), (54, 54)]
set_option maxRecDepth 100000 in
theorem zMT_8_ok : ∀ q ∈ zMT_8, Cond.methodLink (zon 8) q.1 (zm q.2).1 ∈ zTb ∨ Cond.methodLinkNest (zon 8) q.1 (zm q.2).1 RX10 ∈ zNest := List.forall_mem_cons.mpr ⟨Or.inl (zi_18 (List.mem_of_getElem? (i := 2) rfl)), List.forall_mem_cons.mpr ⟨Or.inl (zi_43 (List.mem_of_getElem? (i := 1) rfl)), List.forall_mem_cons.mpr ⟨Or.inl (zi_43 (List.mem_of_getElem? (i := 5) rfl)), List.forall_mem_cons.mpr ⟨Or.inl (zi_43 (List.mem_of_getElem? (i := 6) rfl)), fun _ h => absurd h List.not_mem_nil⟩⟩⟩⟩
def zMT_9 : List (Nat × Nat) := [(26, 223), (32, 57), (36, 58), (40, 16), (57, 61), (61, 62), (65, 64)]
set_option maxRecDepth 100000 in
theorem zMT_9_ok : ∀ q ∈ zMT_9, Cond.methodLink (zon 9) q.1 (zm q.2).1 ∈ zTb ∨ Cond.methodLinkNest (zon 9) q.1 (zm q.2).1 RX10 ∈ zNest := List.forall_mem_cons.mpr ⟨Or.inl (zi_39 (List.mem_of_getElem? (i := 3) rfl)), List.forall_mem_cons.mpr ⟨Or.inl (zi_39 (List.mem_of_getElem? (i := 4) rfl)), List.forall_mem_cons.mpr ⟨Or.inl (zi_39 (List.mem_of_getElem? (i := 7) rfl)), List.forall_mem_cons.mpr ⟨Or.inl (zi_39 (List.mem_of_getElem? (i := 10) rfl)), List.forall_mem_cons.mpr ⟨Or.inl (zi_40 (List.mem_of_getElem? (i := 4) rfl)), List.forall_mem_cons.mpr ⟨Or.inl (zi_40 (List.mem_of_getElem? (i := 7) rfl)), List.forall_mem_cons.mpr ⟨Or.inl (zi_41 (List.mem_of_getElem? (i := 3) rfl)), fun _ h => absurd h List.not_mem_nil⟩⟩⟩⟩⟩⟩⟩
def zMT_10 : List (Nat × Nat) := [(11, 43), (36, 3), (45, 15), (48, 0), (58, 29), (67, 55), (76, 51), (91, 47), (92, 111), (97, 110), (104, 19), (111, 70), (117, 20), (130, 5), (133, 21), (153, 112), (157, 6), (161, 7), (164, 13), (167, 1), (174, 41), (177, 30), (180, 44), (190, 42), (193, 26), (200, 4), (203, 18), (207, 45), (210, 113), (213, 114), (222, 115), (226, 56), (230, 59), (234, 63), (237, 60), (240, 116), (246, 52), (256, 48), (260, 49), (263, 50), (278, 46), (287, 117), (292, 24), (294, 2)]
set_option maxRecDepth 100000 in
theorem zMT_10_ok : ∀ q ∈ zMT_10, Cond.methodLink (zon 10) q.1 (zm q.2).1 ∈ zTb ∨ Cond.methodLinkNest (zon 10) q.1 (zm q.2).1 RX10 ∈ zNest := List.forall_mem_cons.mpr ⟨Or.inr (List.mem_of_getElem? (i := 0) rfl), List.forall_mem_cons.mpr ⟨Or.inl (zi_13 (List.mem_of_getElem? (i := 14) rfl)), List.forall_mem_cons.mpr ⟨Or.inl (zi_15 (List.mem_of_getElem? (i := 9) rfl)), List.forall_mem_cons.mpr ⟨Or.inr (List.mem_of_getElem? (i := 3) rfl), List.forall_mem_cons.mpr ⟨Or.inl (zi_15 (List.mem_of_getElem? (i := 13) rfl)), List.forall_mem_cons.mpr ⟨Or.inl (zi_17 (List.mem_of_getElem? (i := 0) rfl)), List.forall_mem_cons.mpr ⟨Or.inr (List.mem_of_getElem? (i := 4) rfl), List.forall_mem_cons.mpr ⟨Or.inr (List.mem_of_getElem? (i := 5) rfl), List.forall_mem_cons.mpr ⟨Or.inl (zi_21 (List.mem_of_getElem? (i := 2) rfl)), List.forall_mem_cons.mpr ⟨Or.inl (zi_21 (List.mem_of_getElem? (i := 6) rfl)), List.forall_mem_cons.mpr ⟨Or.inl (zi_21 (List.mem_of_getElem? (i := 14) rfl)), List.forall_mem_cons.mpr ⟨Or.inl (zi_22 (List.mem_of_getElem? (i := 11) rfl)), List.forall_mem_cons.mpr ⟨Or.inl (zi_22 (List.mem_of_getElem? (i := 14) rfl)), List.forall_mem_cons.mpr ⟨Or.inl (zi_23 (List.mem_of_getElem? (i := 3) rfl)), List.forall_mem_cons.mpr ⟨Or.inl (zi_26 (List.mem_of_getElem? (i := 13) rfl)), List.forall_mem_cons.mpr ⟨Or.inl (zi_27 (List.mem_of_getElem? (i := 11) rfl)), List.forall_mem_cons.mpr ⟨Or.inl (zi_27 (List.mem_of_getElem? (i := 14) rfl)), List.forall_mem_cons.mpr ⟨Or.inl (zi_27 (List.mem_of_getElem? (i := 15) rfl)), List.forall_mem_cons.mpr ⟨Or.inl (zi_28 (List.mem_of_getElem? (i := 0) rfl)), List.forall_mem_cons.mpr ⟨Or.inl (zi_28 (List.mem_of_getElem? (i := 13) rfl)), List.forall_mem_cons.mpr ⟨Or.inl (zi_29 (List.mem_of_getElem? (i := 5) rfl)), List.forall_mem_cons.mpr ⟨Or.inl (zi_29 (List.mem_of_getElem? (i := 13) rfl)), List.forall_mem_cons.mpr ⟨Or.inl (zi_31 (List.mem_of_getElem? (i := 14) rfl)), List.forall_mem_cons.mpr ⟨Or.inl (zi_32 (List.mem_of_getElem? (i := 2) rfl)), List.forall_mem_cons.mpr ⟨Or.inl (zi_32 (List.mem_of_getElem? (i := 14) rfl)), List.forall_mem_cons.mpr ⟨Or.inl (zi_33 (List.mem_of_getElem? (i := 3) rfl)), List.forall_mem_cons.mpr ⟨Or.inl (zi_34 (List.mem_of_getElem? (i := 5) rfl)), List.forall_mem_cons.mpr ⟨Or.inl (zi_35 (List.mem_of_getElem? (i := 1) rfl)), List.forall_mem_cons.mpr ⟨Or.inl (zi_35 (List.mem_of_getElem? (i := 10) rfl)), List.forall_mem_cons.mpr ⟨Or.inl (zi_36 (List.mem_of_getElem? (i := 7) rfl)), List.forall_mem_cons.mpr ⟨Or.inl (zi_38 (List.mem_of_getElem? (i := 3) rfl)), List.forall_mem_cons.mpr ⟨Or.inl (zi_38 (List.mem_of_getElem? (i := 14) rfl)), List.forall_mem_cons.mpr ⟨Or.inl (zi_40 (List.mem_of_getElem? (i := 0) rfl)), List.forall_mem_cons.mpr ⟨Or.inl (zi_40 (List.mem_of_getElem? (i := 15) rfl)), List.forall_mem_cons.mpr ⟨Or.inl (zi_41 (List.mem_of_getElem? (i := 10) rfl)), List.forall_mem_cons.mpr ⟨Or.inl (zi_42 (List.mem_of_getElem? (i := 2) rfl)), List.forall_mem_cons.mpr ⟨Or.inl (zi_42 (List.mem_of_getElem? (i := 13) rfl)), List.forall_mem_cons.mpr ⟨Or.inl (zi_44 (List.mem_of_getElem? (i := 1) rfl)), List.forall_mem_cons.mpr ⟨Or.inl (zi_44 (List.mem_of_getElem? (i := 10) rfl)), List.forall_mem_cons.mpr ⟨Or.inl (zi_45 (List.mem_of_getElem? (i := 2) rfl)), List.forall_mem_cons.mpr ⟨Or.inl (zi_46 (List.mem_of_getElem? (i := 4) rfl)), List.forall_mem_cons.mpr ⟨Or.inl (zi_47 (List.mem_of_getElem? (i := 11) rfl)), List.forall_mem_cons.mpr ⟨Or.inl (zi_35 (List.mem_of_getElem? (i := 13) rfl)), List.forall_mem_cons.mpr ⟨Or.inl (zi_36 (List.mem_of_getElem? (i := 2) rfl)), fun _ h => absurd h List.not_mem_nil⟩⟩⟩⟩⟩⟩⟩⟩⟩⟩⟩⟩⟩⟩⟩⟩⟩⟩⟩⟩⟩⟩⟩⟩⟩⟩⟩⟩⟩⟩⟩⟩⟩⟩⟩⟩⟩⟩⟩⟩⟩⟩⟩⟩
def zMT_11 : List (Nat × Nat) := [(56, 154), (61, 120), (79, 132), (90, 138), (93, 134), (97, 136), (101, 139), (104, 140), (107, 141), (110, 143), (116, 133), (119, 137), (122, 142), (125, 135), (133, 145), (139, 119), (144, 144), (148, 146), (152, 121), (155, 149), (159, 122), (161, 127), (164, 151), (167, 126), (170, 155), (173, 157), (176, 156), (179, 159), (182, 158), (185, 160), (188, 152), (191, 161), (194, 153), (197, 162), (200, 163), (203, 124), (208, 129), (211, 166), (216, 125), (227, 172), (230, 123), (237, 128), (242, 178), (245, 164), (251, 180), (254, 183), (257, 130), (260, 131), (263, 186), (269, 210), (272, 191), (276, 195), (279, 194), (287, 198), (292, 201), (298, 203), (304, 204), (307, 205), (310, 206), (313, 207), (319, 220)]
set_option maxRecDepth 100000 in
theorem zMT_11_ok : ∀ q ∈ zMT_11, Cond.methodLink (zon 11) q.1 (zm q.2).1 ∈ zTb ∨ Cond.methodLinkNest (zon 11) q.1 (zm q.2).1 RX10 ∈ zNest := List.forall_mem_cons.mpr ⟨Or.inl (zi_48 (List.mem_of_getElem? (i := 8) rfl)), List.forall_mem_cons.mpr ⟨Or.inl (zi_52 (List.mem_of_getElem? (i := 2) rfl)), List.forall_mem_cons.mpr ⟨Or.inl (zi_54 (List.mem_of_getElem? (i := 3) rfl)), List.forall_mem_cons.mpr ⟨Or.inl (zi_53 (List.mem_of_getElem? (i := 4) rfl)), List.forall_mem_cons.mpr ⟨Or.inl (zi_54 (List.mem_of_getElem? (i := 15) rfl)), List.forall_mem_cons.mpr ⟨Or.inl (zi_54 (List.mem_of_getElem? (i := 12) rfl)), List.forall_mem_cons.mpr ⟨Or.inl (zi_53 (List.mem_of_getElem? (i := 7) rfl)), List.forall_mem_cons.mpr ⟨Or.inl (zi_53 (List.mem_of_getElem? (i := 10) rfl)), List.forall_mem_cons.mpr ⟨Or.inl (zi_53 (List.mem_of_getElem? (i := 13) rfl)), List.forall_mem_cons.mpr ⟨Or.inl (zi_54 (List.mem_of_getElem? (i := 0) rfl)), List.forall_mem_cons.mpr ⟨Or.inl (zi_54 (List.mem_of_getElem? (i := 9) rfl)), List.forall_mem_cons.mpr ⟨Or.inl (zi_53 (List.mem_of_getElem? (i := 1) rfl)), List.forall_mem_cons.mpr ⟨Or.inl (zi_54 (List.mem_of_getElem? (i := 6) rfl)), List.forall_mem_cons.mpr ⟨Or.inl (zi_55 (List.mem_of_getElem? (i := 2) rfl)), List.forall_mem_cons.mpr ⟨Or.inl (zi_56 (List.mem_of_getElem? (i := 1) rfl)), List.forall_mem_cons.mpr ⟨Or.inl (zi_52 (List.mem_of_getElem? (i := 5) rfl)), List.forall_mem_cons.mpr ⟨Or.inl (zi_52 (List.mem_of_getElem? (i := 14) rfl)), List.forall_mem_cons.mpr ⟨Or.inl (zi_55 (List.mem_of_getElem? (i := 14) rfl)), List.forall_mem_cons.mpr ⟨Or.inl (zi_56 (List.mem_of_getElem? (i := 4) rfl)), List.forall_mem_cons.mpr ⟨Or.inl (zi_55 (List.mem_of_getElem? (i := 11) rfl)), List.forall_mem_cons.mpr ⟨Or.inl (zi_59 (List.mem_of_getElem? (i := 12) rfl)), List.forall_mem_cons.mpr ⟨Or.inl (zi_57 (List.mem_of_getElem? (i := 10) rfl)), List.forall_mem_cons.mpr ⟨Or.inl (zi_60 (List.mem_of_getElem? (i := 5) rfl)), List.forall_mem_cons.mpr ⟨Or.inl (zi_59 (List.mem_of_getElem? (i := 3) rfl)), List.forall_mem_cons.mpr ⟨Or.inl (zi_59 (List.mem_of_getElem? (i := 9) rfl)), List.forall_mem_cons.mpr ⟨Or.inl (zi_59 (List.mem_of_getElem? (i := 15) rfl)), List.forall_mem_cons.mpr ⟨Or.inl (zi_60 (List.mem_of_getElem? (i := 2) rfl)), List.forall_mem_cons.mpr ⟨Or.inl (zi_60 (List.mem_of_getElem? (i := 11) rfl)), List.forall_mem_cons.mpr ⟨Or.inl (zi_59 (List.mem_of_getElem? (i := 6) rfl)), List.forall_mem_cons.mpr ⟨Or.inl (zi_60 (List.mem_of_getElem? (i := 8) rfl)), List.forall_mem_cons.mpr ⟨Or.inl (zi_64 (List.mem_of_getElem? (i := 6) rfl)), List.forall_mem_cons.mpr ⟨Or.inl (zi_59 (List.mem_of_getElem? (i := 0) rfl)), List.forall_mem_cons.mpr ⟨Or.inl (zi_64 (List.mem_of_getElem? (i := 0) rfl)), List.forall_mem_cons.mpr ⟨Or.inl (zi_64 (List.mem_of_getElem? (i := 3) rfl)), List.forall_mem_cons.mpr ⟨Or.inl (zi_63 (List.mem_of_getElem? (i := 13) rfl)), List.forall_mem_cons.mpr ⟨Or.inl (zi_56 (List.mem_of_getElem? (i := 11) rfl)), List.forall_mem_cons.mpr ⟨Or.inl (zi_57 (List.mem_of_getElem? (i := 0) rfl)), List.forall_mem_cons.mpr ⟨Or.inl (zi_57 (List.mem_of_getElem? (i := 7) rfl)), List.forall_mem_cons.mpr ⟨Or.inl (zi_58 (List.mem_of_getElem? (i := 6) rfl)), List.forall_mem_cons.mpr ⟨Or.inl (zi_61 (List.mem_of_getElem? (i := 6) rfl)), List.forall_mem_cons.mpr ⟨Or.inl (zi_61 (List.mem_of_getElem? (i := 14) rfl)), List.forall_mem_cons.mpr ⟨Or.inl (zi_62 (List.mem_of_getElem? (i := 15) rfl)), List.forall_mem_cons.mpr ⟨Or.inl (zi_63 (List.mem_of_getElem? (i := 7) rfl)), List.forall_mem_cons.mpr ⟨Or.inl (zi_63 (List.mem_of_getElem? (i := 10) rfl)), List.forall_mem_cons.mpr ⟨Or.inl (zi_64 (List.mem_of_getElem? (i := 14) rfl)), List.forall_mem_cons.mpr ⟨Or.inl (zi_65 (List.mem_of_getElem? (i := 10) rfl)), List.forall_mem_cons.mpr ⟨Or.inl (zi_65 (List.mem_of_getElem? (i := 13) rfl)), List.forall_mem_cons.mpr ⟨Or.inl (zi_66 (List.mem_of_getElem? (i := 0) rfl)), List.forall_mem_cons.mpr ⟨Or.inl (zi_66 (List.mem_of_getElem? (i := 11) rfl)), List.forall_mem_cons.mpr ⟨Or.inl (zi_68 (List.mem_of_getElem? (i := 0) rfl)), List.forall_mem_cons.mpr ⟨Or.inl (zi_68 (List.mem_of_getElem? (i := 4) rfl)), List.forall_mem_cons.mpr ⟨Or.inl (zi_69 (List.mem_of_getElem? (i := 2) rfl)), List.forall_mem_cons.mpr ⟨Or.inl (zi_68 (List.mem_of_getElem? (i := 15) rfl)), List.forall_mem_cons.mpr ⟨Or.inl (zi_69 (List.mem_of_getElem? (i := 14) rfl)), List.forall_mem_cons.mpr ⟨Or.inl (zi_70 (List.mem_of_getElem? (i := 10) rfl)), List.forall_mem_cons.mpr ⟨Or.inl (zi_71 (List.mem_of_getElem? (i := 4) rfl)), List.forall_mem_cons.mpr ⟨Or.inl (zi_71 (List.mem_of_getElem? (i := 1) rfl)), List.forall_mem_cons.mpr ⟨Or.inl (zi_71 (List.mem_of_getElem? (i := 7) rfl)), List.forall_mem_cons.mpr ⟨Or.inl (zi_71 (List.mem_of_getElem? (i := 10) rfl)), List.forall_mem_cons.mpr ⟨Or.inl (zi_71 (List.mem_of_getElem? (i := 13) rfl)), List.forall_mem_cons.mpr ⟨Or.inl (zi_74 (List.mem_of_getElem? (i := 12) rfl)), fun _ h => absurd h List.not_mem_nil⟩⟩⟩⟩⟩⟩⟩⟩⟩⟩⟩⟩⟩⟩⟩⟩⟩⟩⟩⟩⟩⟩⟩⟩⟩⟩⟩⟩⟩⟩⟩⟩⟩⟩⟩⟩⟩⟩⟩⟩⟩⟩⟩⟩⟩⟩⟩⟩⟩⟩⟩⟩⟩⟩⟩⟩⟩⟩⟩⟩⟩
def zMT_12 : List (Nat × Nat) := []
set_option maxRecDepth 100000 in
theorem zMT_12_ok : ∀ q ∈ zMT_12, Cond.methodLink (zon 12) q.1 (zm q.2).1 ∈ zTb ∨ Cond.methodLinkNest (zon 12) q.1 (zm q.2).1 RX10 ∈ zNest := fun _ h => absurd h List.not_mem_nil
def zMT_13 : List (Nat × Nat) := [(9, 65), (12, 118), (13, 66), (17, 165), (18, 67), (21, 167), (22, 68), (25, 168), (26, 69), (30, 169), (31, 71), (34, 170), (35, 72), (39, 171), (40, 73), (43, 173), (44, 74), (47, 174), (48, 75), (51, 175), (52, 76), (55, 176), (56, 77), (59, 177), (62, 78), (66, 147), (67, 79), (70, 148), (71, 80), (75, 150), (76, 81), (79, 179), (80, 82), (83, 181), (84, 83), (87, 184), (88, 84), (92, 185), (93, 85), (96, 187), (97, 86), (100, 188), (101, 87), (104, 189), (105, 88), (108, 190), (109, 89), (112, 192), (113, 90), (116, 193), (117, 91), (120, 196), (121, 92), (124, 197), (125, 93), (128, 199), (129, 94), (132, 200), (133, 95), (136, 202), (137, 96), (140, 182), (141, 97), (144, 208), (145, 98), (148, 209), (149, 99), (152, 211), (153, 100), (156, 212), (157, 101), (161, 213), (162, 102), (165, 214), (166, 103), (169, 215), (170, 104), (173, 216), (174, 105), (177, 217), (178, 106), (181, 218), (182, 107), (185, 219), (186, 108), (189, 221), (190, 109), (193, 222)]
set_option maxRecDepth 100000 in
theorem zMT_13_ok : ∀ q ∈ zMT_13, Cond.methodLink (zon 13) q.1 (zm q.2).1 ∈ zTb ∨ Cond.methodLinkNest (zon 13) q.1 (zm q.2).1 RX10 ∈ zNest := List.forall_mem_cons.mpr ⟨Or.inl (zi_5 (List.mem_of_getElem? (i := 8) rfl)), List.forall_mem_cons.mpr ⟨Or.inl (zi_48 (List.mem_of_getElem? (i := 4) rfl)), List.forall_mem_cons.mpr ⟨Or.inl (zi_20 (List.mem_of_getElem? (i := 14) rfl)), List.forall_mem_cons.mpr ⟨Or.inl (zi_56 (List.mem_of_getElem? (i := 7) rfl)), List.forall_mem_cons.mpr ⟨Or.inl (zi_21 (List.mem_of_getElem? (i := 10) rfl)), List.forall_mem_cons.mpr ⟨Or.inl (zi_57 (List.mem_of_getElem? (i := 3) rfl)), List.forall_mem_cons.mpr ⟨Or.inl (zi_22 (List.mem_of_getElem? (i := 3) rfl)), List.forall_mem_cons.mpr ⟨Or.inl (zi_57 (List.mem_of_getElem? (i := 13) rfl)), List.forall_mem_cons.mpr ⟨Or.inl (zi_22 (List.mem_of_getElem? (i := 7) rfl)), List.forall_mem_cons.mpr ⟨Or.inl (zi_58 (List.mem_of_getElem? (i := 2) rfl)), List.forall_mem_cons.mpr ⟨Or.inl (zi_22 (List.mem_of_getElem? (i := 15) rfl)), List.forall_mem_cons.mpr ⟨Or.inl (zi_58 (List.mem_of_getElem? (i := 11) rfl)), List.forall_mem_cons.mpr ⟨Or.inl (zi_26 (List.mem_of_getElem? (i := 14) rfl)), List.forall_mem_cons.mpr ⟨Or.inl (zi_60 (List.mem_of_getElem? (i := 14) rfl)), List.forall_mem_cons.mpr ⟨Or.inl (zi_27 (List.mem_of_getElem? (i := 2) rfl)), List.forall_mem_cons.mpr ⟨Or.inl (zi_61 (List.mem_of_getElem? (i := 2) rfl)), List.forall_mem_cons.mpr ⟨Or.inl (zi_27 (List.mem_of_getElem? (i := 7) rfl)), List.forall_mem_cons.mpr ⟨Or.inl (zi_61 (List.mem_of_getElem? (i := 10) rfl)), List.forall_mem_cons.mpr ⟨Or.inl (zi_28 (List.mem_of_getElem? (i := 1) rfl)), List.forall_mem_cons.mpr ⟨Or.inl (zi_62 (List.mem_of_getElem? (i := 2) rfl)), List.forall_mem_cons.mpr ⟨Or.inl (zi_28 (List.mem_of_getElem? (i := 5) rfl)), List.forall_mem_cons.mpr ⟨Or.inl (zi_62 (List.mem_of_getElem? (i := 6) rfl)), List.forall_mem_cons.mpr ⟨Or.inl (zi_28 (List.mem_of_getElem? (i := 9) rfl)), List.forall_mem_cons.mpr ⟨Or.inl (zi_62 (List.mem_of_getElem? (i := 10) rfl)), List.forall_mem_cons.mpr ⟨Or.inl (zi_29 (List.mem_of_getElem? (i := 1) rfl)), List.forall_mem_cons.mpr ⟨Or.inl (zi_51 (List.mem_of_getElem? (i := 13) rfl)), List.forall_mem_cons.mpr ⟨Or.inl (zi_29 (List.mem_of_getElem? (i := 9) rfl)), List.forall_mem_cons.mpr ⟨Or.inl (zi_52 (List.mem_of_getElem? (i := 10) rfl)), List.forall_mem_cons.mpr ⟨Or.inl (zi_32 (List.mem_of_getElem? (i := 10) rfl)), List.forall_mem_cons.mpr ⟨Or.inl (zi_55 (List.mem_of_getElem? (i := 7) rfl)), List.forall_mem_cons.mpr ⟨Or.inl (zi_32 (List.mem_of_getElem? (i := 15) rfl)), List.forall_mem_cons.mpr ⟨Or.inl (zi_63 (List.mem_of_getElem? (i := 2) rfl)), List.forall_mem_cons.mpr ⟨Or.inl (zi_34 (List.mem_of_getElem? (i := 13) rfl)), List.forall_mem_cons.mpr ⟨Or.inl (zi_64 (List.mem_of_getElem? (i := 9) rfl)), List.forall_mem_cons.mpr ⟨Or.inl (zi_35 (List.mem_of_getElem? (i := 6) rfl)), List.forall_mem_cons.mpr ⟨Or.inl (zi_65 (List.mem_of_getElem? (i := 6) rfl)), List.forall_mem_cons.mpr ⟨Or.inl (zi_36 (List.mem_of_getElem? (i := 10) rfl)), List.forall_mem_cons.mpr ⟨Or.inl (zi_66 (List.mem_of_getElem? (i := 3) rfl)), List.forall_mem_cons.mpr ⟨Or.inl (zi_36 (List.mem_of_getElem? (i := 15) rfl)), List.forall_mem_cons.mpr ⟨Or.inl (zi_66 (List.mem_of_getElem? (i := 7) rfl)), List.forall_mem_cons.mpr ⟨Or.inl (zi_37 (List.mem_of_getElem? (i := 3) rfl)), List.forall_mem_cons.mpr ⟨Or.inl (zi_66 (List.mem_of_getElem? (i := 14) rfl)), List.forall_mem_cons.mpr ⟨Or.inl (zi_37 (List.mem_of_getElem? (i := 7) rfl)), List.forall_mem_cons.mpr ⟨Or.inl (zi_67 (List.mem_of_getElem? (i := 3) rfl)), List.forall_mem_cons.mpr ⟨Or.inl (zi_37 (List.mem_of_getElem? (i := 11) rfl)), List.forall_mem_cons.mpr ⟨Or.inl (zi_67 (List.mem_of_getElem? (i := 8) rfl)), List.forall_mem_cons.mpr ⟨Or.inl (zi_37 (List.mem_of_getElem? (i := 15) rfl)), List.forall_mem_cons.mpr ⟨Or.inl (zi_67 (List.mem_of_getElem? (i := 12) rfl)), List.forall_mem_cons.mpr ⟨Or.inl (zi_38 (List.mem_of_getElem? (i := 6) rfl)), List.forall_mem_cons.mpr ⟨Or.inl (zi_68 (List.mem_of_getElem? (i := 7) rfl)), List.forall_mem_cons.mpr ⟨Or.inl (zi_38 (List.mem_of_getElem? (i := 10) rfl)), List.forall_mem_cons.mpr ⟨Or.inl (zi_68 (List.mem_of_getElem? (i := 11) rfl)), List.forall_mem_cons.mpr ⟨Or.inl (zi_39 (List.mem_of_getElem? (i := 12) rfl)), List.forall_mem_cons.mpr ⟨Or.inl (zi_69 (List.mem_of_getElem? (i := 5) rfl)), List.forall_mem_cons.mpr ⟨Or.inl (zi_40 (List.mem_of_getElem? (i := 11) rfl)), List.forall_mem_cons.mpr ⟨Or.inl (zi_69 (List.mem_of_getElem? (i := 9) rfl)), List.forall_mem_cons.mpr ⟨Or.inl (zi_41 (List.mem_of_getElem? (i := 6) rfl)), List.forall_mem_cons.mpr ⟨Or.inl (zi_70 (List.mem_of_getElem? (i := 1) rfl)), List.forall_mem_cons.mpr ⟨Or.inl (zi_41 (List.mem_of_getElem? (i := 14) rfl)), List.forall_mem_cons.mpr ⟨Or.inl (zi_70 (List.mem_of_getElem? (i := 5) rfl)), List.forall_mem_cons.mpr ⟨Or.inl (zi_42 (List.mem_of_getElem? (i := 5) rfl)), List.forall_mem_cons.mpr ⟨Or.inl (zi_65 (List.mem_of_getElem? (i := 2) rfl)), List.forall_mem_cons.mpr ⟨Or.inl (zi_42 (List.mem_of_getElem? (i := 9) rfl)), List.forall_mem_cons.mpr ⟨Or.inl (zi_70 (List.mem_of_getElem? (i := 13) rfl)), List.forall_mem_cons.mpr ⟨Or.inl (zi_43 (List.mem_of_getElem? (i := 9) rfl)), List.forall_mem_cons.mpr ⟨Or.inl (zi_72 (List.mem_of_getElem? (i := 0) rfl)), List.forall_mem_cons.mpr ⟨Or.inl (zi_43 (List.mem_of_getElem? (i := 13) rfl)), List.forall_mem_cons.mpr ⟨Or.inl (zi_72 (List.mem_of_getElem? (i := 4) rfl)), List.forall_mem_cons.mpr ⟨Or.inl (zi_44 (List.mem_of_getElem? (i := 6) rfl)), List.forall_mem_cons.mpr ⟨Or.inl (zi_72 (List.mem_of_getElem? (i := 8) rfl)), List.forall_mem_cons.mpr ⟨Or.inl (zi_44 (List.mem_of_getElem? (i := 14) rfl)), List.forall_mem_cons.mpr ⟨Or.inl (zi_72 (List.mem_of_getElem? (i := 12) rfl)), List.forall_mem_cons.mpr ⟨Or.inl (zi_45 (List.mem_of_getElem? (i := 7) rfl)), List.forall_mem_cons.mpr ⟨Or.inl (zi_73 (List.mem_of_getElem? (i := 0) rfl)), List.forall_mem_cons.mpr ⟨Or.inl (zi_45 (List.mem_of_getElem? (i := 11) rfl)), List.forall_mem_cons.mpr ⟨Or.inl (zi_73 (List.mem_of_getElem? (i := 4) rfl)), List.forall_mem_cons.mpr ⟨Or.inl (zi_46 (List.mem_of_getElem? (i := 0) rfl)), List.forall_mem_cons.mpr ⟨Or.inl (zi_73 (List.mem_of_getElem? (i := 8) rfl)), List.forall_mem_cons.mpr ⟨Or.inl (zi_46 (List.mem_of_getElem? (i := 11) rfl)), List.forall_mem_cons.mpr ⟨Or.inl (zi_73 (List.mem_of_getElem? (i := 12) rfl)), List.forall_mem_cons.mpr ⟨Or.inl (zi_46 (List.mem_of_getElem? (i := 15) rfl)), List.forall_mem_cons.mpr ⟨Or.inl (zi_74 (List.mem_of_getElem? (i := 0) rfl)), List.forall_mem_cons.mpr ⟨Or.inl (zi_47 (List.mem_of_getElem? (i := 3) rfl)), List.forall_mem_cons.mpr ⟨Or.inl (zi_74 (List.mem_of_getElem? (i := 4) rfl)), List.forall_mem_cons.mpr ⟨Or.inl (zi_47 (List.mem_of_getElem? (i := 7) rfl)), List.forall_mem_cons.mpr ⟨Or.inl (zi_74 (List.mem_of_getElem? (i := 8) rfl)), List.forall_mem_cons.mpr ⟨Or.inl (zi_47 (List.mem_of_getElem? (i := 14) rfl)), List.forall_mem_cons.mpr ⟨Or.inl (zi_74 (List.mem_of_getElem? (i := 15) rfl)), fun _ h => absurd h List.not_mem_nil⟩⟩⟩⟩⟩⟩⟩⟩⟩⟩⟩⟩⟩⟩⟩⟩⟩⟩⟩⟩⟩⟩⟩⟩⟩⟩⟩⟩⟩⟩⟩⟩⟩⟩⟩⟩⟩⟩⟩⟩⟩⟩⟩⟩⟩⟩⟩⟩⟩⟩⟩⟩⟩⟩⟩⟩⟩⟩⟩⟩⟩⟩⟩⟩⟩⟩⟩⟩⟩⟩⟩⟩⟩⟩⟩⟩⟩⟩⟩⟩⟩⟩⟩⟩⟩⟩⟩⟩
def zMT : Nat → List (Nat × Nat) := fun o => match o with
  | 0 => zMT_0
  | 1 => zMT_1
  | 2 => zMT_2
  | 3 => zMT_3
  | 4 => zMT_4
  | 5 => zMT_5
  | 6 => zMT_6
  | 7 => zMT_7
  | 8 => zMT_8
  | 9 => zMT_9
  | 10 => zMT_10
  | 11 => zMT_11
  | 12 => zMT_12
  | 13 => zMT_13
  | _ => []
theorem zMT_ok : ∀ o, ∀ q ∈ zMT o, Cond.methodLink (zon o) q.1 (zm q.2).1 ∈ zTb ∨ Cond.methodLinkNest (zon o) q.1 (zm q.2).1 RX10 ∈ zNest := fun o => match o with
  | 0 => zMT_0_ok
  | 1 => zMT_1_ok
  | 2 => zMT_2_ok
  | 3 => zMT_3_ok
  | 4 => zMT_4_ok
  | 5 => zMT_5_ok
  | 6 => zMT_6_ok
  | 7 => zMT_7_ok
  | 8 => zMT_8_ok
  | 9 => zMT_9_ok
  | 10 => zMT_10_ok
  | 11 => zMT_11_ok
  | 12 => zMT_12_ok
  | 13 => zMT_13_ok
  | _ + 14 => fun _ h => absurd h List.not_mem_nil
def zHT_0 : List (Nat × Nat) := []
set_option maxRecDepth 100000 in
theorem zHT_0_ok : ∀ q ∈ zHT_0, Cond.methodLink (zon 0) q.1 (match q.2 with | 0 => Lib.Math.abs.name | 1 => Lib.Math.max.name | _ => Lib.Math.min.name) ∈ zTb := fun _ h => absurd h List.not_mem_nil
def zHT_1 : List (Nat × Nat) := [(85, 0)]
set_option maxRecDepth 100000 in
theorem zHT_1_ok : ∀ q ∈ zHT_1, Cond.methodLink (zon 1) q.1 (match q.2 with | 0 => Lib.Math.abs.name | 1 => Lib.Math.max.name | _ => Lib.Math.min.name) ∈ zTb := List.forall_mem_cons.mpr ⟨zi_23 (List.mem_of_getElem? (i := 15) rfl), fun _ h => absurd h List.not_mem_nil⟩
def zHT_2 : List (Nat × Nat) := [(41, 0), (63, 2)]
set_option maxRecDepth 100000 in
theorem zHT_2_ok : ∀ q ∈ zHT_2, Cond.methodLink (zon 2) q.1 (match q.2 with | 0 => Lib.Math.abs.name | 1 => Lib.Math.max.name | _ => Lib.Math.min.name) ∈ zTb := List.forall_mem_cons.mpr ⟨zi_34 (List.mem_of_getElem? (i := 12) rfl), List.forall_mem_cons.mpr ⟨zi_34 (List.mem_of_getElem? (i := 0) rfl), fun _ h => absurd h List.not_mem_nil⟩⟩
def zHT_3 : List (Nat × Nat) := [(39, 2), (45, 1)]
set_option maxRecDepth 100000 in
theorem zHT_3_ok : ∀ q ∈ zHT_3, Cond.methodLink (zon 3) q.1 (match q.2 with | 0 => Lib.Math.abs.name | 1 => Lib.Math.max.name | _ => Lib.Math.min.name) ∈ zTb := List.forall_mem_cons.mpr ⟨zi_26 (List.mem_of_getElem? (i := 9) rfl), List.forall_mem_cons.mpr ⟨zi_26 (List.mem_of_getElem? (i := 12) rfl), fun _ h => absurd h List.not_mem_nil⟩⟩
def zHT_4 : List (Nat × Nat) := []
set_option maxRecDepth 100000 in
theorem zHT_4_ok : ∀ q ∈ zHT_4, Cond.methodLink (zon 4) q.1 (match q.2 with | 0 => Lib.Math.abs.name | 1 => Lib.Math.max.name | _ => Lib.Math.min.name) ∈ zTb := fun _ h => absurd h List.not_mem_nil
def zHT_5 : List (Nat × Nat) := [(7, 1), (23, 2)]
set_option maxRecDepth 100000 in
theorem zHT_5_ok : ∀ q ∈ zHT_5, Cond.methodLink (zon 5) q.1 (match q.2 with | 0 => Lib.Math.abs.name | 1 => Lib.Math.max.name | _ => Lib.Math.min.name) ∈ zTb := List.forall_mem_cons.mpr ⟨zi_11 (List.mem_of_getElem? (i := 1) rfl), List.forall_mem_cons.mpr ⟨zi_32 (List.mem_of_getElem? (i := 6) rfl), fun _ h => absurd h List.not_mem_nil⟩⟩
def zHT_6 : List (Nat × Nat) := []
set_option maxRecDepth 100000 in
theorem zHT_6_ok : ∀ q ∈ zHT_6, Cond.methodLink (zon 6) q.1 (match q.2 with | 0 => Lib.Math.abs.name | 1 => Lib.Math.max.name | _ => Lib.Math.min.name) ∈ zTb := fun _ h => absurd h List.not_mem_nil
def zHT_7 : List (Nat × Nat) := []
set_option maxRecDepth 100000 in
theorem zHT_7_ok : ∀ q ∈ zHT_7, Cond.methodLink (zon 7) q.1 (match q.2 with | 0 => Lib.Math.abs.name | 1 => Lib.Math.max.name | _ => Lib.Math.min.name) ∈ zTb := fun _ h => absurd h List.not_mem_nil
def zHT_8 : List (Nat × Nat) := []
set_option maxRecDepth 100000 in
theorem zHT_8_ok : ∀ q ∈ zHT_8, Cond.methodLink (zon 8) q.1 (match q.2 with | 0 => Lib.Math.abs.name | 1 => Lib.Math.max.name | _ => Lib.Math.min.name) ∈ zTb := fun _ h => absurd h List.not_mem_nil
def zHT_9 : List (Nat × Nat) := [(46, 2)]
set_option maxRecDepth 100000 in
theorem zHT_9_ok : ∀ q ∈ zHT_9, Cond.methodLink (zon 9) q.1 (match q.2 with | 0 => Lib.Math.abs.name | 1 => Lib.Math.max.name | _ => Lib.Math.min.name) ∈ zTb := List.forall_mem_cons.mpr ⟨zi_39 (List.mem_of_getElem? (i := 11) rfl), fun _ h => absurd h List.not_mem_nil⟩
def zHT_10 : List (Nat × Nat) := [(273, 2)]
set_option maxRecDepth 100000 in
theorem zHT_10_ok : ∀ q ∈ zHT_10, Cond.methodLink (zon 10) q.1 (match q.2 with | 0 => Lib.Math.abs.name | 1 => Lib.Math.max.name | _ => Lib.Math.min.name) ∈ zTb := List.forall_mem_cons.mpr ⟨zi_45 (List.mem_of_getElem? (i := 15) rfl), fun _ h => absurd h List.not_mem_nil⟩
def zHT_11 : List (Nat × Nat) := []
set_option maxRecDepth 100000 in
theorem zHT_11_ok : ∀ q ∈ zHT_11, Cond.methodLink (zon 11) q.1 (match q.2 with | 0 => Lib.Math.abs.name | 1 => Lib.Math.max.name | _ => Lib.Math.min.name) ∈ zTb := fun _ h => absurd h List.not_mem_nil
def zHT_12 : List (Nat × Nat) := []
set_option maxRecDepth 100000 in
theorem zHT_12_ok : ∀ q ∈ zHT_12, Cond.methodLink (zon 12) q.1 (match q.2 with | 0 => Lib.Math.abs.name | 1 => Lib.Math.max.name | _ => Lib.Math.min.name) ∈ zTb := fun _ h => absurd h List.not_mem_nil
def zHT_13 : List (Nat × Nat) := []
set_option maxRecDepth 100000 in
theorem zHT_13_ok : ∀ q ∈ zHT_13, Cond.methodLink (zon 13) q.1 (match q.2 with | 0 => Lib.Math.abs.name | 1 => Lib.Math.max.name | _ => Lib.Math.min.name) ∈ zTb := fun _ h => absurd h List.not_mem_nil
def zHT : Nat → List (Nat × Nat) := fun o => match o with
  | 0 => zHT_0
  | 1 => zHT_1
  | 2 => zHT_2
  | 3 => zHT_3
  | 4 => zHT_4
  | 5 => zHT_5
  | 6 => zHT_6
  | 7 => zHT_7
  | 8 => zHT_8
  | 9 => zHT_9
  | 10 => zHT_10
  | 11 => zHT_11
  | 12 => zHT_12
  | 13 => zHT_13
  | _ => []
theorem zHT_ok : ∀ o, ∀ q ∈ zHT o, Cond.methodLink (zon o) q.1 (match q.2 with | 0 => Lib.Math.abs.name | 1 => Lib.Math.max.name | _ => Lib.Math.min.name) ∈ zTb := fun o => match o with
  | 0 => zHT_0_ok
  | 1 => zHT_1_ok
  | 2 => zHT_2_ok
  | 3 => zHT_3_ok
  | 4 => zHT_4_ok
  | 5 => zHT_5_ok
  | 6 => zHT_6_ok
  | 7 => zHT_7_ok
  | 8 => zHT_8_ok
  | 9 => zHT_9_ok
  | 10 => zHT_10_ok
  | 11 => zHT_11_ok
  | 12 => zHT_12_ok
  | 13 => zHT_13_ok
  | _ + 14 => fun _ h => absurd h List.not_mem_nil
def zOT_0 : List (Nat) := [3]
set_option maxRecDepth 100000 in
theorem zOT_0_ok : ∀ q ∈ zOT_0, Cond.methodLink (zon 0) q objectInit ∈ zTb := List.forall_mem_cons.mpr ⟨zi_9 (List.mem_of_getElem? (i := 3) rfl), fun _ h => absurd h List.not_mem_nil⟩
def zOT_1 : List (Nat) := [3]
set_option maxRecDepth 100000 in
theorem zOT_1_ok : ∀ q ∈ zOT_1, Cond.methodLink (zon 1) q objectInit ∈ zTb := List.forall_mem_cons.mpr ⟨zi_14 (List.mem_of_getElem? (i := 1) rfl), fun _ h => absurd h List.not_mem_nil⟩
def zOT_2 : List (Nat) := [3]
set_option maxRecDepth 100000 in
theorem zOT_2_ok : ∀ q ∈ zOT_2, Cond.methodLink (zon 2) q objectInit ∈ zTb := List.forall_mem_cons.mpr ⟨zi_6 (List.mem_of_getElem? (i := 8) rfl), fun _ h => absurd h List.not_mem_nil⟩
def zOT_3 : List (Nat) := [3]
set_option maxRecDepth 100000 in
theorem zOT_3_ok : ∀ q ∈ zOT_3, Cond.methodLink (zon 3) q objectInit ∈ zTb := List.forall_mem_cons.mpr ⟨zi_10 (List.mem_of_getElem? (i := 10) rfl), fun _ h => absurd h List.not_mem_nil⟩
def zOT_4 : List (Nat) := [3]
set_option maxRecDepth 100000 in
theorem zOT_4_ok : ∀ q ∈ zOT_4, Cond.methodLink (zon 4) q objectInit ∈ zTb := List.forall_mem_cons.mpr ⟨zi_16 (List.mem_of_getElem? (i := 0) rfl), fun _ h => absurd h List.not_mem_nil⟩
def zOT_5 : List (Nat) := [1]
set_option maxRecDepth 100000 in
theorem zOT_5_ok : ∀ q ∈ zOT_5, Cond.methodLink (zon 5) q objectInit ∈ zTb := List.forall_mem_cons.mpr ⟨zi_11 (List.mem_of_getElem? (i := 0) rfl), fun _ h => absurd h List.not_mem_nil⟩
def zOT_6 : List (Nat) := [3]
set_option maxRecDepth 100000 in
theorem zOT_6_ok : ∀ q ∈ zOT_6, Cond.methodLink (zon 6) q objectInit ∈ zTb := List.forall_mem_cons.mpr ⟨zi_6 (List.mem_of_getElem? (i := 2) rfl), fun _ h => absurd h List.not_mem_nil⟩
def zOT_7 : List (Nat) := [3]
set_option maxRecDepth 100000 in
theorem zOT_7_ok : ∀ q ∈ zOT_7, Cond.methodLink (zon 7) q objectInit ∈ zTb := List.forall_mem_cons.mpr ⟨zi_19 (List.mem_of_getElem? (i := 0) rfl), fun _ h => absurd h List.not_mem_nil⟩
def zOT_8 : List (Nat) := [3]
set_option maxRecDepth 100000 in
theorem zOT_8_ok : ∀ q ∈ zOT_8, Cond.methodLink (zon 8) q objectInit ∈ zTb := List.forall_mem_cons.mpr ⟨zi_18 (List.mem_of_getElem? (i := 0) rfl), fun _ h => absurd h List.not_mem_nil⟩
def zOT_9 : List (Nat) := [3]
set_option maxRecDepth 100000 in
theorem zOT_9_ok : ∀ q ∈ zOT_9, Cond.methodLink (zon 9) q objectInit ∈ zTb := List.forall_mem_cons.mpr ⟨zi_17 (List.mem_of_getElem? (i := 3) rfl), fun _ h => absurd h List.not_mem_nil⟩
def zOT_10 : List (Nat) := [3]
set_option maxRecDepth 100000 in
theorem zOT_10_ok : ∀ q ∈ zOT_10, Cond.methodLink (zon 10) q objectInit ∈ zTb := List.forall_mem_cons.mpr ⟨zi_5 (List.mem_of_getElem? (i := 11) rfl), fun _ h => absurd h List.not_mem_nil⟩
def zOT_11 : List (Nat) := [1]
set_option maxRecDepth 100000 in
theorem zOT_11_ok : ∀ q ∈ zOT_11, Cond.methodLink (zon 11) q objectInit ∈ zTb := List.forall_mem_cons.mpr ⟨zi_48 (List.mem_of_getElem? (i := 7) rfl), fun _ h => absurd h List.not_mem_nil⟩
def zOT_12 : List (Nat) := []
set_option maxRecDepth 100000 in
theorem zOT_12_ok : ∀ q ∈ zOT_12, Cond.methodLink (zon 12) q objectInit ∈ zTb := fun _ h => absurd h List.not_mem_nil
def zOT_13 : List (Nat) := []
set_option maxRecDepth 100000 in
theorem zOT_13_ok : ∀ q ∈ zOT_13, Cond.methodLink (zon 13) q objectInit ∈ zTb := fun _ h => absurd h List.not_mem_nil
def zOT : Nat → List (Nat) := fun o => match o with
  | 0 => zOT_0
  | 1 => zOT_1
  | 2 => zOT_2
  | 3 => zOT_3
  | 4 => zOT_4
  | 5 => zOT_5
  | 6 => zOT_6
  | 7 => zOT_7
  | 8 => zOT_8
  | 9 => zOT_9
  | 10 => zOT_10
  | 11 => zOT_11
  | 12 => zOT_12
  | 13 => zOT_13
  | _ => []
theorem zOT_ok : ∀ o, ∀ q ∈ zOT o, Cond.methodLink (zon o) q objectInit ∈ zTb := fun o => match o with
  | 0 => zOT_0_ok
  | 1 => zOT_1_ok
  | 2 => zOT_2_ok
  | 3 => zOT_3_ok
  | 4 => zOT_4_ok
  | 5 => zOT_5_ok
  | 6 => zOT_6_ok
  | 7 => zOT_7_ok
  | 8 => zOT_8_ok
  | 9 => zOT_9_ok
  | 10 => zOT_10_ok
  | 11 => zOT_11_ok
  | 12 => zOT_12_ok
  | 13 => zOT_13_ok
  | _ + 14 => fun _ h => absurd h List.not_mem_nil
def zYT_0 : List (Nat) := [24]
set_option maxRecDepth 100000 in
theorem zYT_0_ok : ∀ q ∈ zYT_0, Cond.methodLink (zon 0) q arraycopyName ∈ zTb := List.forall_mem_cons.mpr ⟨zi_36 (List.mem_of_getElem? (i := 6) rfl), fun _ h => absurd h List.not_mem_nil⟩
def zYT_1 : List (Nat) := []
set_option maxRecDepth 100000 in
theorem zYT_1_ok : ∀ q ∈ zYT_1, Cond.methodLink (zon 1) q arraycopyName ∈ zTb := fun _ h => absurd h List.not_mem_nil
def zYT_2 : List (Nat) := [69]
set_option maxRecDepth 100000 in
theorem zYT_2_ok : ∀ q ∈ zYT_2, Cond.methodLink (zon 2) q arraycopyName ∈ zTb := List.forall_mem_cons.mpr ⟨zi_36 (List.mem_of_getElem? (i := 1) rfl), fun _ h => absurd h List.not_mem_nil⟩
def zYT_3 : List (Nat) := []
set_option maxRecDepth 100000 in
theorem zYT_3_ok : ∀ q ∈ zYT_3, Cond.methodLink (zon 3) q arraycopyName ∈ zTb := fun _ h => absurd h List.not_mem_nil
def zYT_4 : List (Nat) := []
set_option maxRecDepth 100000 in
theorem zYT_4_ok : ∀ q ∈ zYT_4, Cond.methodLink (zon 4) q arraycopyName ∈ zTb := fun _ h => absurd h List.not_mem_nil
def zYT_5 : List (Nat) := [26]
set_option maxRecDepth 100000 in
theorem zYT_5_ok : ∀ q ∈ zYT_5, Cond.methodLink (zon 5) q arraycopyName ∈ zTb := List.forall_mem_cons.mpr ⟨zi_32 (List.mem_of_getElem? (i := 7) rfl), fun _ h => absurd h List.not_mem_nil⟩
def zYT_6 : List (Nat) := []
set_option maxRecDepth 100000 in
theorem zYT_6_ok : ∀ q ∈ zYT_6, Cond.methodLink (zon 6) q arraycopyName ∈ zTb := fun _ h => absurd h List.not_mem_nil
def zYT_7 : List (Nat) := []
set_option maxRecDepth 100000 in
theorem zYT_7_ok : ∀ q ∈ zYT_7, Cond.methodLink (zon 7) q arraycopyName ∈ zTb := fun _ h => absurd h List.not_mem_nil
def zYT_8 : List (Nat) := []
set_option maxRecDepth 100000 in
theorem zYT_8_ok : ∀ q ∈ zYT_8, Cond.methodLink (zon 8) q arraycopyName ∈ zTb := fun _ h => absurd h List.not_mem_nil
def zYT_9 : List (Nat) := []
set_option maxRecDepth 100000 in
theorem zYT_9_ok : ∀ q ∈ zYT_9, Cond.methodLink (zon 9) q arraycopyName ∈ zTb := fun _ h => absurd h List.not_mem_nil
def zYT_10 : List (Nat) := [267]
set_option maxRecDepth 100000 in
theorem zYT_10_ok : ∀ q ∈ zYT_10, Cond.methodLink (zon 10) q arraycopyName ∈ zTb := List.forall_mem_cons.mpr ⟨zi_45 (List.mem_of_getElem? (i := 6) rfl), fun _ h => absurd h List.not_mem_nil⟩
def zYT_11 : List (Nat) := []
set_option maxRecDepth 100000 in
theorem zYT_11_ok : ∀ q ∈ zYT_11, Cond.methodLink (zon 11) q arraycopyName ∈ zTb := fun _ h => absurd h List.not_mem_nil
def zYT_12 : List (Nat) := []
set_option maxRecDepth 100000 in
theorem zYT_12_ok : ∀ q ∈ zYT_12, Cond.methodLink (zon 12) q arraycopyName ∈ zTb := fun _ h => absurd h List.not_mem_nil
def zYT_13 : List (Nat) := []
set_option maxRecDepth 100000 in
theorem zYT_13_ok : ∀ q ∈ zYT_13, Cond.methodLink (zon 13) q arraycopyName ∈ zTb := fun _ h => absurd h List.not_mem_nil
def zYT : Nat → List (Nat) := fun o => match o with
  | 0 => zYT_0
  | 1 => zYT_1
  | 2 => zYT_2
  | 3 => zYT_3
  | 4 => zYT_4
  | 5 => zYT_5
  | 6 => zYT_6
  | 7 => zYT_7
  | 8 => zYT_8
  | 9 => zYT_9
  | 10 => zYT_10
  | 11 => zYT_11
  | 12 => zYT_12
  | 13 => zYT_13
  | _ => []
theorem zYT_ok : ∀ o, ∀ q ∈ zYT o, Cond.methodLink (zon o) q arraycopyName ∈ zTb := fun o => match o with
  | 0 => zYT_0_ok
  | 1 => zYT_1_ok
  | 2 => zYT_2_ok
  | 3 => zYT_3_ok
  | 4 => zYT_4_ok
  | 5 => zYT_5_ok
  | 6 => zYT_6_ok
  | 7 => zYT_7_ok
  | 8 => zYT_8_ok
  | 9 => zYT_9_ok
  | 10 => zYT_10_ok
  | 11 => zYT_11_ok
  | 12 => zYT_12_ok
  | 13 => zYT_13_ok
  | _ + 14 => fun _ h => absurd h List.not_mem_nil
def zKT_0 : List (Nat × Int) := []
set_option maxRecDepth 100000 in
theorem zKT_0_ok : ∀ q ∈ zKT_0, Cond.constant (zon 0) q.1 (Int32.ofInt q.2) ∈ zTb := fun _ h => absurd h List.not_mem_nil
def zKT_1 : List (Nat × Int) := []
set_option maxRecDepth 100000 in
theorem zKT_1_ok : ∀ q ∈ zKT_1, Cond.constant (zon 1) q.1 (Int32.ofInt q.2) ∈ zTb := fun _ h => absurd h List.not_mem_nil
def zKT_2 : List (Nat × Int) := []
set_option maxRecDepth 100000 in
theorem zKT_2_ok : ∀ q ∈ zKT_2, Cond.constant (zon 2) q.1 (Int32.ofInt q.2) ∈ zTb := fun _ h => absurd h List.not_mem_nil
def zKT_3 : List (Nat × Int) := []
set_option maxRecDepth 100000 in
theorem zKT_3_ok : ∀ q ∈ zKT_3, Cond.constant (zon 3) q.1 (Int32.ofInt q.2) ∈ zTb := fun _ h => absurd h List.not_mem_nil
def zKT_4 : List (Nat × Int) := []
set_option maxRecDepth 100000 in
theorem zKT_4_ok : ∀ q ∈ zKT_4, Cond.constant (zon 4) q.1 (Int32.ofInt q.2) ∈ zTb := fun _ h => absurd h List.not_mem_nil
def zKT_5 : List (Nat × Int) := []
set_option maxRecDepth 100000 in
theorem zKT_5_ok : ∀ q ∈ zKT_5, Cond.constant (zon 5) q.1 (Int32.ofInt q.2) ∈ zTb := fun _ h => absurd h List.not_mem_nil
def zKT_6 : List (Nat × Int) := [(51, 1103515245)]
set_option maxRecDepth 100000 in
theorem zKT_6_ok : ∀ q ∈ zKT_6, Cond.constant (zon 6) q.1 (Int32.ofInt q.2) ∈ zTb := List.forall_mem_cons.mpr ⟨zi_35 (List.mem_of_getElem? (i := 5) rfl), fun _ h => absurd h List.not_mem_nil⟩
def zKT_7 : List (Nat × Int) := []
set_option maxRecDepth 100000 in
theorem zKT_7_ok : ∀ q ∈ zKT_7, Cond.constant (zon 7) q.1 (Int32.ofInt q.2) ∈ zTb := fun _ h => absurd h List.not_mem_nil
def zKT_8 : List (Nat × Int) := []
set_option maxRecDepth 100000 in
theorem zKT_8_ok : ∀ q ∈ zKT_8, Cond.constant (zon 8) q.1 (Int32.ofInt q.2) ∈ zTb := fun _ h => absurd h List.not_mem_nil
def zKT_9 : List (Nat × Int) := [(25, 1000000)]
set_option maxRecDepth 100000 in
theorem zKT_9_ok : ∀ q ∈ zKT_9, Cond.constant (zon 9) q.1 (Int32.ofInt q.2) ∈ zTb := List.forall_mem_cons.mpr ⟨zi_39 (List.mem_of_getElem? (i := 2) rfl), fun _ h => absurd h List.not_mem_nil⟩
def zKT_10 : List (Nat × Int) := [(96, (-1000000001)), (107, (-1000000003)), (143, (-1000000004)), (170, (-1000000005)), (217, (-1000000002)), (233, 1000000), (291, (-1000000000))]
set_option maxRecDepth 100000 in
theorem zKT_10_ok : ∀ q ∈ zKT_10, Cond.constant (zon 10) q.1 (Int32.ofInt q.2) ∈ zTb := List.forall_mem_cons.mpr ⟨zi_21 (List.mem_of_getElem? (i := 5) rfl), List.forall_mem_cons.mpr ⟨zi_22 (List.mem_of_getElem? (i := 2) rfl), List.forall_mem_cons.mpr ⟨zi_27 (List.mem_of_getElem? (i := 6) rfl), List.forall_mem_cons.mpr ⟨zi_29 (List.mem_of_getElem? (i := 0) rfl), List.forall_mem_cons.mpr ⟨zi_36 (List.mem_of_getElem? (i := 14) rfl), List.forall_mem_cons.mpr ⟨zi_40 (List.mem_of_getElem? (i := 10) rfl), List.forall_mem_cons.mpr ⟨zi_21 (List.mem_of_getElem? (i := 9) rfl), fun _ h => absurd h List.not_mem_nil⟩⟩⟩⟩⟩⟩⟩
def zKT_11 : List (Nat × Int) := [(60, (-1000000000)), (248, 1103515245), (266, 100000)]
set_option maxRecDepth 100000 in
theorem zKT_11_ok : ∀ q ∈ zKT_11, Cond.constant (zon 11) q.1 (Int32.ofInt q.2) ∈ zTb := List.forall_mem_cons.mpr ⟨zi_52 (List.mem_of_getElem? (i := 8) rfl), List.forall_mem_cons.mpr ⟨zi_65 (List.mem_of_getElem? (i := 1) rfl), List.forall_mem_cons.mpr ⟨zi_67 (List.mem_of_getElem? (i := 2) rfl), fun _ h => absurd h List.not_mem_nil⟩⟩⟩
def zKT_12 : List (Nat × Int) := []
set_option maxRecDepth 100000 in
theorem zKT_12_ok : ∀ q ∈ zKT_12, Cond.constant (zon 12) q.1 (Int32.ofInt q.2) ∈ zTb := fun _ h => absurd h List.not_mem_nil
def zKT_13 : List (Nat × Int) := []
set_option maxRecDepth 100000 in
theorem zKT_13_ok : ∀ q ∈ zKT_13, Cond.constant (zon 13) q.1 (Int32.ofInt q.2) ∈ zTb := fun _ h => absurd h List.not_mem_nil
def zKT : Nat → List (Nat × Int) := fun o => match o with
  | 0 => zKT_0
  | 1 => zKT_1
  | 2 => zKT_2
  | 3 => zKT_3
  | 4 => zKT_4
  | 5 => zKT_5
  | 6 => zKT_6
  | 7 => zKT_7
  | 8 => zKT_8
  | 9 => zKT_9
  | 10 => zKT_10
  | 11 => zKT_11
  | 12 => zKT_12
  | 13 => zKT_13
  | _ => []
theorem zKT_ok : ∀ o, ∀ q ∈ zKT o, Cond.constant (zon o) q.1 (Int32.ofInt q.2) ∈ zTb := fun o => match o with
  | 0 => zKT_0_ok
  | 1 => zKT_1_ok
  | 2 => zKT_2_ok
  | 3 => zKT_3_ok
  | 4 => zKT_4_ok
  | 5 => zKT_5_ok
  | 6 => zKT_6_ok
  | 7 => zKT_7_ok
  | 8 => zKT_8_ok
  | 9 => zKT_9_ok
  | 10 => zKT_10_ok
  | 11 => zKT_11_ok
  | 12 => zKT_12_ok
  | 13 => zKT_13_ok
  | _ + 14 => fun _ h => absurd h List.not_mem_nil
def zLT_0 : List (Nat × Int) := []
set_option maxRecDepth 100000 in
theorem zLT_0_ok : ∀ q ∈ zLT_0, Cond.constantLong (zon 0) q.1 (Int64.ofInt q.2) ∈ zTb := fun _ h => absurd h List.not_mem_nil
def zLT_1 : List (Nat × Int) := []
set_option maxRecDepth 100000 in
theorem zLT_1_ok : ∀ q ∈ zLT_1, Cond.constantLong (zon 1) q.1 (Int64.ofInt q.2) ∈ zTb := fun _ h => absurd h List.not_mem_nil
def zLT_2 : List (Nat × Int) := []
set_option maxRecDepth 100000 in
theorem zLT_2_ok : ∀ q ∈ zLT_2, Cond.constantLong (zon 2) q.1 (Int64.ofInt q.2) ∈ zTb := fun _ h => absurd h List.not_mem_nil
def zLT_3 : List (Nat × Int) := []
set_option maxRecDepth 100000 in
theorem zLT_3_ok : ∀ q ∈ zLT_3, Cond.constantLong (zon 3) q.1 (Int64.ofInt q.2) ∈ zTb := fun _ h => absurd h List.not_mem_nil
def zLT_4 : List (Nat × Int) := []
set_option maxRecDepth 100000 in
theorem zLT_4_ok : ∀ q ∈ zLT_4, Cond.constantLong (zon 4) q.1 (Int64.ofInt q.2) ∈ zTb := fun _ h => absurd h List.not_mem_nil
def zLT_5 : List (Nat × Int) := []
set_option maxRecDepth 100000 in
theorem zLT_5_ok : ∀ q ∈ zLT_5, Cond.constantLong (zon 5) q.1 (Int64.ofInt q.2) ∈ zTb := fun _ h => absurd h List.not_mem_nil
def zLT_6 : List (Nat × Int) := []
set_option maxRecDepth 100000 in
theorem zLT_6_ok : ∀ q ∈ zLT_6, Cond.constantLong (zon 6) q.1 (Int64.ofInt q.2) ∈ zTb := fun _ h => absurd h List.not_mem_nil
def zLT_7 : List (Nat × Int) := []
set_option maxRecDepth 100000 in
theorem zLT_7_ok : ∀ q ∈ zLT_7, Cond.constantLong (zon 7) q.1 (Int64.ofInt q.2) ∈ zTb := fun _ h => absurd h List.not_mem_nil
def zLT_8 : List (Nat × Int) := []
set_option maxRecDepth 100000 in
theorem zLT_8_ok : ∀ q ∈ zLT_8, Cond.constantLong (zon 8) q.1 (Int64.ofInt q.2) ∈ zTb := fun _ h => absurd h List.not_mem_nil
def zLT_9 : List (Nat × Int) := []
set_option maxRecDepth 100000 in
theorem zLT_9_ok : ∀ q ∈ zLT_9, Cond.constantLong (zon 9) q.1 (Int64.ofInt q.2) ∈ zTb := fun _ h => absurd h List.not_mem_nil
def zLT_10 : List (Nat × Int) := []
set_option maxRecDepth 100000 in
theorem zLT_10_ok : ∀ q ∈ zLT_10, Cond.constantLong (zon 10) q.1 (Int64.ofInt q.2) ∈ zTb := fun _ h => absurd h List.not_mem_nil
def zLT_11 : List (Nat × Int) := [(65, 63), (129, 48), (131, 57), (137, 8), (142, 255), (206, 9), (214, 2), (219, 20), (221, 99), (223, 5), (225, 69), (233, 4), (235, 6), (240, 60), (249, 40), (267, 14), (283, 3), (285, 200), (290, 30)]
set_option maxRecDepth 100000 in
theorem zLT_11_ok : ∀ q ∈ zLT_11, Cond.constantLong (zon 11) q.1 (Int64.ofInt q.2) ∈ zTb := List.forall_mem_cons.mpr ⟨zi_56 (List.mem_of_getElem? (i := 14) rfl), List.forall_mem_cons.mpr ⟨zi_55 (List.mem_of_getElem? (i := 5) rfl), List.forall_mem_cons.mpr ⟨zi_55 (List.mem_of_getElem? (i := 6) rfl), List.forall_mem_cons.mpr ⟨zi_52 (List.mem_of_getElem? (i := 1) rfl), List.forall_mem_cons.mpr ⟨zi_52 (List.mem_of_getElem? (i := 9) rfl), List.forall_mem_cons.mpr ⟨zi_56 (List.mem_of_getElem? (i := 15) rfl), List.forall_mem_cons.mpr ⟨zi_58 (List.mem_of_getElem? (i := 1) rfl), List.forall_mem_cons.mpr ⟨zi_58 (List.mem_of_getElem? (i := 9) rfl), List.forall_mem_cons.mpr ⟨zi_58 (List.mem_of_getElem? (i := 10) rfl), List.forall_mem_cons.mpr ⟨zi_58 (List.mem_of_getElem? (i := 15) rfl), List.forall_mem_cons.mpr ⟨zi_61 (List.mem_of_getElem? (i := 9) rfl), List.forall_mem_cons.mpr ⟨zi_62 (List.mem_of_getElem? (i := 1) rfl), List.forall_mem_cons.mpr ⟨zi_62 (List.mem_of_getElem? (i := 14) rfl), List.forall_mem_cons.mpr ⟨zi_63 (List.mem_of_getElem? (i := 6) rfl), List.forall_mem_cons.mpr ⟨zi_64 (List.mem_of_getElem? (i := 13) rfl), List.forall_mem_cons.mpr ⟨zi_67 (List.mem_of_getElem? (i := 7) rfl), List.forall_mem_cons.mpr ⟨zi_68 (List.mem_of_getElem? (i := 3) rfl), List.forall_mem_cons.mpr ⟨zi_69 (List.mem_of_getElem? (i := 13) rfl), List.forall_mem_cons.mpr ⟨zi_70 (List.mem_of_getElem? (i := 9) rfl), fun _ h => absurd h List.not_mem_nil⟩⟩⟩⟩⟩⟩⟩⟩⟩⟩⟩⟩⟩⟩⟩⟩⟩⟩⟩
def zLT_12 : List (Nat × Int) := []
set_option maxRecDepth 100000 in
theorem zLT_12_ok : ∀ q ∈ zLT_12, Cond.constantLong (zon 12) q.1 (Int64.ofInt q.2) ∈ zTb := fun _ h => absurd h List.not_mem_nil
def zLT_13 : List (Nat × Int) := [(60, 4294967295)]
set_option maxRecDepth 100000 in
theorem zLT_13_ok : ∀ q ∈ zLT_13, Cond.constantLong (zon 13) q.1 (Int64.ofInt q.2) ∈ zTb := List.forall_mem_cons.mpr ⟨zi_75 (List.mem_of_getElem? (i := 3) rfl), fun _ h => absurd h List.not_mem_nil⟩
def zLT : Nat → List (Nat × Int) := fun o => match o with
  | 0 => zLT_0
  | 1 => zLT_1
  | 2 => zLT_2
  | 3 => zLT_3
  | 4 => zLT_4
  | 5 => zLT_5
  | 6 => zLT_6
  | 7 => zLT_7
  | 8 => zLT_8
  | 9 => zLT_9
  | 10 => zLT_10
  | 11 => zLT_11
  | 12 => zLT_12
  | 13 => zLT_13
  | _ => []
theorem zLT_ok : ∀ o, ∀ q ∈ zLT o, Cond.constantLong (zon o) q.1 (Int64.ofInt q.2) ∈ zTb := fun o => match o with
  | 0 => zLT_0_ok
  | 1 => zLT_1_ok
  | 2 => zLT_2_ok
  | 3 => zLT_3_ok
  | 4 => zLT_4_ok
  | 5 => zLT_5_ok
  | 6 => zLT_6_ok
  | 7 => zLT_7_ok
  | 8 => zLT_8_ok
  | 9 => zLT_9_ok
  | 10 => zLT_10_ok
  | 11 => zLT_11_ok
  | 12 => zLT_12_ok
  | 13 => zLT_13_ok
  | _ + 14 => fun _ h => absurd h List.not_mem_nil
def zST_0 : List (Nat × Nat) := [(21, 0)]
set_option maxRecDepth 100000 in
theorem zST_0_ok : ∀ q ∈ zST_0, q.2 < 3 ∧ (Cond.fieldLink (zon 0) q.1 (zrc q.2).1 (zrc q.2).2.1 (zrc q.2).2.2 ∈ zTb ∨ Cond.fieldLinkNest (zon 0) q.1 (zrc q.2).1 (zrc q.2).2.1 (zrc q.2).2.2 RX10 ∈ zNest) := List.forall_mem_cons.mpr ⟨⟨by decide, Or.inr (List.mem_of_getElem? (i := 6) rfl)⟩, fun _ h => absurd h List.not_mem_nil⟩
def zST_1 : List (Nat × Nat) := []
set_option maxRecDepth 100000 in
theorem zST_1_ok : ∀ q ∈ zST_1, q.2 < 3 ∧ (Cond.fieldLink (zon 1) q.1 (zrc q.2).1 (zrc q.2).2.1 (zrc q.2).2.2 ∈ zTb ∨ Cond.fieldLinkNest (zon 1) q.1 (zrc q.2).1 (zrc q.2).2.1 (zrc q.2).2.2 RX10 ∈ zNest) := fun _ h => absurd h List.not_mem_nil
def zST_2 : List (Nat × Nat) := []
set_option maxRecDepth 100000 in
theorem zST_2_ok : ∀ q ∈ zST_2, q.2 < 3 ∧ (Cond.fieldLink (zon 2) q.1 (zrc q.2).1 (zrc q.2).2.1 (zrc q.2).2.2 ∈ zTb ∨ Cond.fieldLinkNest (zon 2) q.1 (zrc q.2).1 (zrc q.2).2.1 (zrc q.2).2.2 RX10 ∈ zNest) := fun _ h => absurd h List.not_mem_nil
def zST_3 : List (Nat × Nat) := []
set_option maxRecDepth 100000 in
theorem zST_3_ok : ∀ q ∈ zST_3, q.2 < 3 ∧ (Cond.fieldLink (zon 3) q.1 (zrc q.2).1 (zrc q.2).2.1 (zrc q.2).2.2 ∈ zTb ∨ Cond.fieldLinkNest (zon 3) q.1 (zrc q.2).1 (zrc q.2).2.1 (zrc q.2).2.2 RX10 ∈ zNest) := fun _ h => absurd h List.not_mem_nil
def zST_4 : List (Nat × Nat) := [(76, 2)]
set_option maxRecDepth 100000 in
theorem zST_4_ok : ∀ q ∈ zST_4, q.2 < 3 ∧ (Cond.fieldLink (zon 4) q.1 (zrc q.2).1 (zrc q.2).2.1 (zrc q.2).2.2 ∈ zTb ∨ Cond.fieldLinkNest (zon 4) q.1 (zrc q.2).1 (zrc q.2).2.1 (zrc q.2).2.2 RX10 ∈ zNest) := List.forall_mem_cons.mpr ⟨⟨by decide, Or.inl (zi_31 (List.mem_of_getElem? (i := 4) rfl))⟩, fun _ h => absurd h List.not_mem_nil⟩
def zST_5 : List (Nat × Nat) := []
set_option maxRecDepth 100000 in
theorem zST_5_ok : ∀ q ∈ zST_5, q.2 < 3 ∧ (Cond.fieldLink (zon 5) q.1 (zrc q.2).1 (zrc q.2).2.1 (zrc q.2).2.2 ∈ zTb ∨ Cond.fieldLinkNest (zon 5) q.1 (zrc q.2).1 (zrc q.2).2.1 (zrc q.2).2.2 RX10 ∈ zNest) := fun _ h => absurd h List.not_mem_nil
def zST_6 : List (Nat × Nat) := []
set_option maxRecDepth 100000 in
theorem zST_6_ok : ∀ q ∈ zST_6, q.2 < 3 ∧ (Cond.fieldLink (zon 6) q.1 (zrc q.2).1 (zrc q.2).2.1 (zrc q.2).2.2 ∈ zTb ∨ Cond.fieldLinkNest (zon 6) q.1 (zrc q.2).1 (zrc q.2).2.1 (zrc q.2).2.2 RX10 ∈ zNest) := fun _ h => absurd h List.not_mem_nil
def zST_7 : List (Nat × Nat) := []
set_option maxRecDepth 100000 in
theorem zST_7_ok : ∀ q ∈ zST_7, q.2 < 3 ∧ (Cond.fieldLink (zon 7) q.1 (zrc q.2).1 (zrc q.2).2.1 (zrc q.2).2.2 ∈ zTb ∨ Cond.fieldLinkNest (zon 7) q.1 (zrc q.2).1 (zrc q.2).2.1 (zrc q.2).2.2 RX10 ∈ zNest) := fun _ h => absurd h List.not_mem_nil
def zST_8 : List (Nat × Nat) := [(44, 1), (47, 0)]
set_option maxRecDepth 100000 in
theorem zST_8_ok : ∀ q ∈ zST_8, q.2 < 3 ∧ (Cond.fieldLink (zon 8) q.1 (zrc q.2).1 (zrc q.2).2.1 (zrc q.2).2.2 ∈ zTb ∨ Cond.fieldLinkNest (zon 8) q.1 (zrc q.2).1 (zrc q.2).2.1 (zrc q.2).2.2 RX10 ∈ zNest) := List.forall_mem_cons.mpr ⟨⟨by decide, Or.inl (zi_43 (List.mem_of_getElem? (i := 4) rfl))⟩, List.forall_mem_cons.mpr ⟨⟨by decide, Or.inr (List.mem_of_getElem? (i := 7) rfl)⟩, fun _ h => absurd h List.not_mem_nil⟩⟩
def zST_9 : List (Nat × Nat) := []
set_option maxRecDepth 100000 in
theorem zST_9_ok : ∀ q ∈ zST_9, q.2 < 3 ∧ (Cond.fieldLink (zon 9) q.1 (zrc q.2).1 (zrc q.2).2.1 (zrc q.2).2.2 ∈ zTb ∨ Cond.fieldLinkNest (zon 9) q.1 (zrc q.2).1 (zrc q.2).2.1 (zrc q.2).2.2 RX10 ∈ zNest) := fun _ h => absurd h List.not_mem_nil
def zST_10 : List (Nat × Nat) := []
set_option maxRecDepth 100000 in
theorem zST_10_ok : ∀ q ∈ zST_10, q.2 < 3 ∧ (Cond.fieldLink (zon 10) q.1 (zrc q.2).1 (zrc q.2).2.1 (zrc q.2).2.2 ∈ zTb ∨ Cond.fieldLinkNest (zon 10) q.1 (zrc q.2).1 (zrc q.2).2.1 (zrc q.2).2.2 RX10 ∈ zNest) := fun _ h => absurd h List.not_mem_nil
def zST_11 : List (Nat × Nat) := []
set_option maxRecDepth 100000 in
theorem zST_11_ok : ∀ q ∈ zST_11, q.2 < 3 ∧ (Cond.fieldLink (zon 11) q.1 (zrc q.2).1 (zrc q.2).2.1 (zrc q.2).2.2 ∈ zTb ∨ Cond.fieldLinkNest (zon 11) q.1 (zrc q.2).1 (zrc q.2).2.1 (zrc q.2).2.2 RX10 ∈ zNest) := fun _ h => absurd h List.not_mem_nil
def zST_12 : List (Nat × Nat) := []
set_option maxRecDepth 100000 in
theorem zST_12_ok : ∀ q ∈ zST_12, q.2 < 3 ∧ (Cond.fieldLink (zon 12) q.1 (zrc q.2).1 (zrc q.2).2.1 (zrc q.2).2.2 ∈ zTb ∨ Cond.fieldLinkNest (zon 12) q.1 (zrc q.2).1 (zrc q.2).2.1 (zrc q.2).2.2 RX10 ∈ zNest) := fun _ h => absurd h List.not_mem_nil
def zST_13 : List (Nat × Nat) := []
set_option maxRecDepth 100000 in
theorem zST_13_ok : ∀ q ∈ zST_13, q.2 < 3 ∧ (Cond.fieldLink (zon 13) q.1 (zrc q.2).1 (zrc q.2).2.1 (zrc q.2).2.2 ∈ zTb ∨ Cond.fieldLinkNest (zon 13) q.1 (zrc q.2).1 (zrc q.2).2.1 (zrc q.2).2.2 RX10 ∈ zNest) := fun _ h => absurd h List.not_mem_nil
def zST : Nat → List (Nat × Nat) := fun o => match o with
  | 0 => zST_0
  | 1 => zST_1
  | 2 => zST_2
  | 3 => zST_3
  | 4 => zST_4
  | 5 => zST_5
  | 6 => zST_6
  | 7 => zST_7
  | 8 => zST_8
  | 9 => zST_9
  | 10 => zST_10
  | 11 => zST_11
  | 12 => zST_12
  | 13 => zST_13
  | _ => []
theorem zST_ok : ∀ o, ∀ q ∈ zST o, q.2 < 3 ∧ (Cond.fieldLink (zon o) q.1 (zrc q.2).1 (zrc q.2).2.1 (zrc q.2).2.2 ∈ zTb ∨ Cond.fieldLinkNest (zon o) q.1 (zrc q.2).1 (zrc q.2).2.1 (zrc q.2).2.2 RX10 ∈ zNest) := fun o => match o with
  | 0 => zST_0_ok
  | 1 => zST_1_ok
  | 2 => zST_2_ok
  | 3 => zST_3_ok
  | 4 => zST_4_ok
  | 5 => zST_5_ok
  | 6 => zST_6_ok
  | 7 => zST_7_ok
  | 8 => zST_8_ok
  | 9 => zST_9_ok
  | 10 => zST_10_ok
  | 11 => zST_11_ok
  | 12 => zST_12_ok
  | 13 => zST_13_ok
  | _ + 14 => fun _ h => absurd h List.not_mem_nil
def zNT_0 : List (Nat × Nat) := []
set_option maxRecDepth 100000 in
theorem zNT_0_ok : ∀ q ∈ zNT_0, ∃ (C : String) (T : u_T) (N : Nat), zcl[q.2]? = some (C, T, N) ∧ (∀ w ∈ u_ws C T N, w ∈ zTb) ∧ (∀ k, k < N → parseFieldDescriptor (T k).2.2.1 = some (zty q.2 k)) ∧ Cond.classLink (zon 0) q.1 C ∈ zTb ∧ Cond.instantiable C N ∈ zTb ∧ Cond.initialized C ∈ zTb := fun _ h => absurd h List.not_mem_nil
def zNT_1 : List (Nat × Nat) := []
set_option maxRecDepth 100000 in
theorem zNT_1_ok : ∀ q ∈ zNT_1, ∃ (C : String) (T : u_T) (N : Nat), zcl[q.2]? = some (C, T, N) ∧ (∀ w ∈ u_ws C T N, w ∈ zTb) ∧ (∀ k, k < N → parseFieldDescriptor (T k).2.2.1 = some (zty q.2 k)) ∧ Cond.classLink (zon 1) q.1 C ∈ zTb ∧ Cond.instantiable C N ∈ zTb ∧ Cond.initialized C ∈ zTb := fun _ h => absurd h List.not_mem_nil
def zNT_2 : List (Nat × Nat) := []
set_option maxRecDepth 100000 in
theorem zNT_2_ok : ∀ q ∈ zNT_2, ∃ (C : String) (T : u_T) (N : Nat), zcl[q.2]? = some (C, T, N) ∧ (∀ w ∈ u_ws C T N, w ∈ zTb) ∧ (∀ k, k < N → parseFieldDescriptor (T k).2.2.1 = some (zty q.2 k)) ∧ Cond.classLink (zon 2) q.1 C ∈ zTb ∧ Cond.instantiable C N ∈ zTb ∧ Cond.initialized C ∈ zTb := fun _ h => absurd h List.not_mem_nil
def zNT_3 : List (Nat × Nat) := [(9, 5)]
set_option maxRecDepth 100000 in
theorem zNT_3_ok : ∀ q ∈ zNT_3, ∃ (C : String) (T : u_T) (N : Nat), zcl[q.2]? = some (C, T, N) ∧ (∀ w ∈ u_ws C T N, w ∈ zTb) ∧ (∀ k, k < N → parseFieldDescriptor (T k).2.2.1 = some (zty q.2 k)) ∧ Cond.classLink (zon 3) q.1 C ∈ zTb ∧ Cond.instantiable C N ∈ zTb ∧ Cond.initialized C ∈ zTb := List.forall_mem_cons.mpr ⟨⟨RX5, TX5, 2, rfl, inX5, tyX5_ok, zi_10 (List.mem_of_getElem? (i := 11) rfl), zi_10 (List.mem_of_getElem? (i := 12) rfl), zi_4 (List.mem_of_getElem? (i := 12) rfl)⟩, fun _ h => absurd h List.not_mem_nil⟩
def zNT_4 : List (Nat × Nat) := [(9, 5)]
set_option maxRecDepth 100000 in
theorem zNT_4_ok : ∀ q ∈ zNT_4, ∃ (C : String) (T : u_T) (N : Nat), zcl[q.2]? = some (C, T, N) ∧ (∀ w ∈ u_ws C T N, w ∈ zTb) ∧ (∀ k, k < N → parseFieldDescriptor (T k).2.2.1 = some (zty q.2 k)) ∧ Cond.classLink (zon 4) q.1 C ∈ zTb ∧ Cond.instantiable C N ∈ zTb ∧ Cond.initialized C ∈ zTb := List.forall_mem_cons.mpr ⟨⟨RX5, TX5, 2, rfl, inX5, tyX5_ok, zi_16 (List.mem_of_getElem? (i := 1) rfl), zi_10 (List.mem_of_getElem? (i := 12) rfl), zi_4 (List.mem_of_getElem? (i := 12) rfl)⟩, fun _ h => absurd h List.not_mem_nil⟩
def zNT_5 : List (Nat × Nat) := []
set_option maxRecDepth 100000 in
theorem zNT_5_ok : ∀ q ∈ zNT_5, ∃ (C : String) (T : u_T) (N : Nat), zcl[q.2]? = some (C, T, N) ∧ (∀ w ∈ u_ws C T N, w ∈ zTb) ∧ (∀ k, k < N → parseFieldDescriptor (T k).2.2.1 = some (zty q.2 k)) ∧ Cond.classLink (zon 5) q.1 C ∈ zTb ∧ Cond.instantiable C N ∈ zTb ∧ Cond.initialized C ∈ zTb := fun _ h => absurd h List.not_mem_nil
def zNT_6 : List (Nat × Nat) := [(9, 2), (18, 0), (25, 3), (35, 5)]
set_option maxRecDepth 100000 in
theorem zNT_6_ok : ∀ q ∈ zNT_6, ∃ (C : String) (T : u_T) (N : Nat), zcl[q.2]? = some (C, T, N) ∧ (∀ w ∈ u_ws C T N, w ∈ zTb) ∧ (∀ k, k < N → parseFieldDescriptor (T k).2.2.1 = some (zty q.2 k)) ∧ Cond.classLink (zon 6) q.1 C ∈ zTb ∧ Cond.instantiable C N ∈ zTb ∧ Cond.initialized C ∈ zTb := List.forall_mem_cons.mpr ⟨⟨RX2, TX2, 10, rfl, inX2, tyX2_ok, zi_6 (List.mem_of_getElem? (i := 3) rfl), zi_6 (List.mem_of_getElem? (i := 4) rfl), zi_4 (List.mem_of_getElem? (i := 9) rfl)⟩, List.forall_mem_cons.mpr ⟨⟨RX0, TX0, 4, rfl, inX0, tyX0_ok, zi_8 (List.mem_of_getElem? (i := 15) rfl), zi_9 (List.mem_of_getElem? (i := 0) rfl), zi_4 (List.mem_of_getElem? (i := 10) rfl)⟩, List.forall_mem_cons.mpr ⟨⟨RX3, TX3, 2, rfl, inX3, tyX3_ok, zi_10 (List.mem_of_getElem? (i := 6) rfl), zi_10 (List.mem_of_getElem? (i := 7) rfl), zi_4 (List.mem_of_getElem? (i := 11) rfl)⟩, List.forall_mem_cons.mpr ⟨⟨RX5, TX5, 2, rfl, inX5, tyX5_ok, zi_12 (List.mem_of_getElem? (i := 5) rfl), zi_10 (List.mem_of_getElem? (i := 12) rfl), zi_4 (List.mem_of_getElem? (i := 12) rfl)⟩, fun _ h => absurd h List.not_mem_nil⟩⟩⟩⟩
def zNT_7 : List (Nat × Nat) := []
set_option maxRecDepth 100000 in
theorem zNT_7_ok : ∀ q ∈ zNT_7, ∃ (C : String) (T : u_T) (N : Nat), zcl[q.2]? = some (C, T, N) ∧ (∀ w ∈ u_ws C T N, w ∈ zTb) ∧ (∀ k, k < N → parseFieldDescriptor (T k).2.2.1 = some (zty q.2 k)) ∧ Cond.classLink (zon 7) q.1 C ∈ zTb ∧ Cond.instantiable C N ∈ zTb ∧ Cond.initialized C ∈ zTb := fun _ h => absurd h List.not_mem_nil
def zNT_8 : List (Nat × Nat) := [(9, 5)]
set_option maxRecDepth 100000 in
theorem zNT_8_ok : ∀ q ∈ zNT_8, ∃ (C : String) (T : u_T) (N : Nat), zcl[q.2]? = some (C, T, N) ∧ (∀ w ∈ u_ws C T N, w ∈ zTb) ∧ (∀ k, k < N → parseFieldDescriptor (T k).2.2.1 = some (zty q.2 k)) ∧ Cond.classLink (zon 8) q.1 C ∈ zTb ∧ Cond.instantiable C N ∈ zTb ∧ Cond.initialized C ∈ zTb := List.forall_mem_cons.mpr ⟨⟨RX5, TX5, 2, rfl, inX5, tyX5_ok, zi_18 (List.mem_of_getElem? (i := 1) rfl), zi_10 (List.mem_of_getElem? (i := 12) rfl), zi_4 (List.mem_of_getElem? (i := 12) rfl)⟩, fun _ h => absurd h List.not_mem_nil⟩
def zNT_9 : List (Nat × Nat) := []
set_option maxRecDepth 100000 in
theorem zNT_9_ok : ∀ q ∈ zNT_9, ∃ (C : String) (T : u_T) (N : Nat), zcl[q.2]? = some (C, T, N) ∧ (∀ w ∈ u_ws C T N, w ∈ zTb) ∧ (∀ k, k < N → parseFieldDescriptor (T k).2.2.1 = some (zty q.2 k)) ∧ Cond.classLink (zon 9) q.1 C ∈ zTb ∧ Cond.instantiable C N ∈ zTb ∧ Cond.initialized C ∈ zTb := fun _ h => absurd h List.not_mem_nil
def zNT_10 : List (Nat × Nat) := [(9, 6), (19, 1), (43, 2), (46, 0), (52, 4), (65, 9), (74, 8), (81, 7)]
set_option maxRecDepth 100000 in
theorem zNT_10_ok : ∀ q ∈ zNT_10, ∃ (C : String) (T : u_T) (N : Nat), zcl[q.2]? = some (C, T, N) ∧ (∀ w ∈ u_ws C T N, w ∈ zTb) ∧ (∀ k, k < N → parseFieldDescriptor (T k).2.2.1 = some (zty q.2 k)) ∧ Cond.classLink (zon 10) q.1 C ∈ zTb ∧ Cond.instantiable C N ∈ zTb ∧ Cond.initialized C ∈ zTb := List.forall_mem_cons.mpr ⟨⟨RX6, TX6, 7, rfl, inX6, tyX6_ok, zi_5 (List.mem_of_getElem? (i := 14) rfl), zi_5 (List.mem_of_getElem? (i := 15) rfl), zi_4 (List.mem_of_getElem? (i := 8) rfl)⟩, List.forall_mem_cons.mpr ⟨⟨RX1, TX1, 10, rfl, inX1, tyX1_ok, zi_13 (List.mem_of_getElem? (i := 12) rfl), zi_13 (List.mem_of_getElem? (i := 13) rfl), zi_4 (List.mem_of_getElem? (i := 14) rfl)⟩, List.forall_mem_cons.mpr ⟨⟨RX2, TX2, 10, rfl, inX2, tyX2_ok, zi_15 (List.mem_of_getElem? (i := 8) rfl), zi_6 (List.mem_of_getElem? (i := 4) rfl), zi_4 (List.mem_of_getElem? (i := 9) rfl)⟩, List.forall_mem_cons.mpr ⟨⟨RX0, TX0, 4, rfl, inX0, tyX0_ok, zi_15 (List.mem_of_getElem? (i := 10) rfl), zi_9 (List.mem_of_getElem? (i := 0) rfl), zi_4 (List.mem_of_getElem? (i := 10) rfl)⟩, List.forall_mem_cons.mpr ⟨⟨RX4, TX4, 5, rfl, inX4, tyX4_ok, zi_15 (List.mem_of_getElem? (i := 11) rfl), zi_15 (List.mem_of_getElem? (i := 12) rfl), zi_4 (List.mem_of_getElem? (i := 15) rfl)⟩, List.forall_mem_cons.mpr ⟨⟨RX9, TX9, 4, rfl, inX9, tyX9_ok, zi_16 (List.mem_of_getElem? (i := 14) rfl), zi_16 (List.mem_of_getElem? (i := 15) rfl), zi_5 (List.mem_of_getElem? (i := 0) rfl)⟩, List.forall_mem_cons.mpr ⟨⟨RX8, TX8, 4, rfl, inX8, tyX8_ok, zi_17 (List.mem_of_getElem? (i := 12) rfl), zi_17 (List.mem_of_getElem? (i := 13) rfl), zi_5 (List.mem_of_getElem? (i := 1) rfl)⟩, List.forall_mem_cons.mpr ⟨⟨RX7, TX7, 3, rfl, inX7, tyX7_ok, zi_18 (List.mem_of_getElem? (i := 12) rfl), zi_18 (List.mem_of_getElem? (i := 13) rfl), zi_5 (List.mem_of_getElem? (i := 2) rfl)⟩, fun _ h => absurd h List.not_mem_nil⟩⟩⟩⟩⟩⟩⟩⟩
def zNT_11 : List (Nat × Nat) := []
set_option maxRecDepth 100000 in
theorem zNT_11_ok : ∀ q ∈ zNT_11, ∃ (C : String) (T : u_T) (N : Nat), zcl[q.2]? = some (C, T, N) ∧ (∀ w ∈ u_ws C T N, w ∈ zTb) ∧ (∀ k, k < N → parseFieldDescriptor (T k).2.2.1 = some (zty q.2 k)) ∧ Cond.classLink (zon 11) q.1 C ∈ zTb ∧ Cond.instantiable C N ∈ zTb ∧ Cond.initialized C ∈ zTb := fun _ h => absurd h List.not_mem_nil
def zNT_12 : List (Nat × Nat) := []
set_option maxRecDepth 100000 in
theorem zNT_12_ok : ∀ q ∈ zNT_12, ∃ (C : String) (T : u_T) (N : Nat), zcl[q.2]? = some (C, T, N) ∧ (∀ w ∈ u_ws C T N, w ∈ zTb) ∧ (∀ k, k < N → parseFieldDescriptor (T k).2.2.1 = some (zty q.2 k)) ∧ Cond.classLink (zon 12) q.1 C ∈ zTb ∧ Cond.instantiable C N ∈ zTb ∧ Cond.initialized C ∈ zTb := fun _ h => absurd h List.not_mem_nil
def zNT_13 : List (Nat × Nat) := [(7, 10), (10, 11)]
set_option maxRecDepth 100000 in
theorem zNT_13_ok : ∀ q ∈ zNT_13, ∃ (C : String) (T : u_T) (N : Nat), zcl[q.2]? = some (C, T, N) ∧ (∀ w ∈ u_ws C T N, w ∈ zTb) ∧ (∀ k, k < N → parseFieldDescriptor (T k).2.2.1 = some (zty q.2 k)) ∧ Cond.classLink (zon 13) q.1 C ∈ zTb ∧ Cond.instantiable C N ∈ zTb ∧ Cond.initialized C ∈ zTb := List.forall_mem_cons.mpr ⟨⟨RX10, TX10, 10, rfl, inX10, tyX10_ok, zi_5 (List.mem_of_getElem? (i := 6) rfl), zi_5 (List.mem_of_getElem? (i := 7) rfl), zi_4 (List.mem_of_getElem? (i := 7) rfl)⟩, List.forall_mem_cons.mpr ⟨⟨RX11, TX11, 25, rfl, inX11, tyX11_ok, zi_48 (List.mem_of_getElem? (i := 2) rfl), zi_48 (List.mem_of_getElem? (i := 3) rfl), zi_5 (List.mem_of_getElem? (i := 3) rfl)⟩, fun _ h => absurd h List.not_mem_nil⟩⟩
def zNT : Nat → List (Nat × Nat) := fun o => match o with
  | 0 => zNT_0
  | 1 => zNT_1
  | 2 => zNT_2
  | 3 => zNT_3
  | 4 => zNT_4
  | 5 => zNT_5
  | 6 => zNT_6
  | 7 => zNT_7
  | 8 => zNT_8
  | 9 => zNT_9
  | 10 => zNT_10
  | 11 => zNT_11
  | 12 => zNT_12
  | 13 => zNT_13
  | _ => []
theorem zNT_ok : ∀ o, ∀ q ∈ zNT o, ∃ (C : String) (T : u_T) (N : Nat), zcl[q.2]? = some (C, T, N) ∧ (∀ w ∈ u_ws C T N, w ∈ zTb) ∧ (∀ k, k < N → parseFieldDescriptor (T k).2.2.1 = some (zty q.2 k)) ∧ Cond.classLink (zon o) q.1 C ∈ zTb ∧ Cond.instantiable C N ∈ zTb ∧ Cond.initialized C ∈ zTb := fun o => match o with
  | 0 => zNT_0_ok
  | 1 => zNT_1_ok
  | 2 => zNT_2_ok
  | 3 => zNT_3_ok
  | 4 => zNT_4_ok
  | 5 => zNT_5_ok
  | 6 => zNT_6_ok
  | 7 => zNT_7_ok
  | 8 => zNT_8_ok
  | 9 => zNT_9_ok
  | 10 => zNT_10_ok
  | 11 => zNT_11_ok
  | 12 => zNT_12_ok
  | 13 => zNT_13_ok
  | _ + 14 => fun _ h => absurd h List.not_mem_nil
def zAT_0 : List (Nat) := []
set_option maxRecDepth 100000 in
theorem zAT_0_ok : ∀ q ∈ zAT_0, Cond.classLink (zon 0) q zO ∈ zTb := fun _ h => absurd h List.not_mem_nil
def zAT_1 : List (Nat) := []
set_option maxRecDepth 100000 in
theorem zAT_1_ok : ∀ q ∈ zAT_1, Cond.classLink (zon 1) q zO ∈ zTb := fun _ h => absurd h List.not_mem_nil
def zAT_2 : List (Nat) := []
set_option maxRecDepth 100000 in
theorem zAT_2_ok : ∀ q ∈ zAT_2, Cond.classLink (zon 2) q zO ∈ zTb := fun _ h => absurd h List.not_mem_nil
def zAT_3 : List (Nat) := []
set_option maxRecDepth 100000 in
theorem zAT_3_ok : ∀ q ∈ zAT_3, Cond.classLink (zon 3) q zO ∈ zTb := fun _ h => absurd h List.not_mem_nil
def zAT_4 : List (Nat) := []
set_option maxRecDepth 100000 in
theorem zAT_4_ok : ∀ q ∈ zAT_4, Cond.classLink (zon 4) q zO ∈ zTb := fun _ h => absurd h List.not_mem_nil
def zAT_5 : List (Nat) := []
set_option maxRecDepth 100000 in
theorem zAT_5_ok : ∀ q ∈ zAT_5, Cond.classLink (zon 5) q zO ∈ zTb := fun _ h => absurd h List.not_mem_nil
def zAT_6 : List (Nat) := []
set_option maxRecDepth 100000 in
theorem zAT_6_ok : ∀ q ∈ zAT_6, Cond.classLink (zon 6) q zO ∈ zTb := fun _ h => absurd h List.not_mem_nil
def zAT_7 : List (Nat) := []
set_option maxRecDepth 100000 in
theorem zAT_7_ok : ∀ q ∈ zAT_7, Cond.classLink (zon 7) q zO ∈ zTb := fun _ h => absurd h List.not_mem_nil
def zAT_8 : List (Nat) := []
set_option maxRecDepth 100000 in
theorem zAT_8_ok : ∀ q ∈ zAT_8, Cond.classLink (zon 8) q zO ∈ zTb := fun _ h => absurd h List.not_mem_nil
def zAT_9 : List (Nat) := []
set_option maxRecDepth 100000 in
theorem zAT_9_ok : ∀ q ∈ zAT_9, Cond.classLink (zon 9) q zO ∈ zTb := fun _ h => absurd h List.not_mem_nil
def zAT_10 : List (Nat) := [81]
set_option maxRecDepth 100000 in
theorem zAT_10_ok : ∀ q ∈ zAT_10, Cond.classLink (zon 10) q zO ∈ zTb := List.forall_mem_cons.mpr ⟨zi_18 (List.mem_of_getElem? (i := 12) rfl), fun _ h => absurd h List.not_mem_nil⟩
def zAT_11 : List (Nat) := []
set_option maxRecDepth 100000 in
theorem zAT_11_ok : ∀ q ∈ zAT_11, Cond.classLink (zon 11) q zO ∈ zTb := fun _ h => absurd h List.not_mem_nil
def zAT_12 : List (Nat) := []
set_option maxRecDepth 100000 in
theorem zAT_12_ok : ∀ q ∈ zAT_12, Cond.classLink (zon 12) q zO ∈ zTb := fun _ h => absurd h List.not_mem_nil
def zAT_13 : List (Nat) := []
set_option maxRecDepth 100000 in
theorem zAT_13_ok : ∀ q ∈ zAT_13, Cond.classLink (zon 13) q zO ∈ zTb := fun _ h => absurd h List.not_mem_nil
def zAT : Nat → List (Nat) := fun o => match o with
  | 0 => zAT_0
  | 1 => zAT_1
  | 2 => zAT_2
  | 3 => zAT_3
  | 4 => zAT_4
  | 5 => zAT_5
  | 6 => zAT_6
  | 7 => zAT_7
  | 8 => zAT_8
  | 9 => zAT_9
  | 10 => zAT_10
  | 11 => zAT_11
  | 12 => zAT_12
  | 13 => zAT_13
  | _ => []
theorem zAT_ok : ∀ o, ∀ q ∈ zAT o, Cond.classLink (zon o) q zO ∈ zTb := fun o => match o with
  | 0 => zAT_0_ok
  | 1 => zAT_1_ok
  | 2 => zAT_2_ok
  | 3 => zAT_3_ok
  | 4 => zAT_4_ok
  | 5 => zAT_5_ok
  | 6 => zAT_6_ok
  | 7 => zAT_7_ok
  | 8 => zAT_8_ok
  | 9 => zAT_9_ok
  | 10 => zAT_10_ok
  | 11 => zAT_11_ok
  | 12 => zAT_12_ok
  | 13 => zAT_13_ok
  | _ + 14 => fun _ h => absurd h List.not_mem_nil
theorem zcl_ok : ∀ ci C T N, zcl[ci]? = some (C, T, N) → (∀ w ∈ u_ws C T N, w ∈ zTb) ∧ (∀ k, k < N → parseFieldDescriptor (T k).2.2.1 = some (zty ci k)) ∧ (∀ a, a < N → ∀ b, b < N → a ≠ b → (T a).2.1 ≠ (T b).2.1) ∧ (zfl ci).length = N ∧ ∀ k, k < N → (T k).1 = C := by
  intro ci C T N h
  match ci, h with
  | 0, h => cases h; exact ⟨inX0, tyX0_ok, nmX0, rfl, by decide +kernel⟩
  | 1, h => cases h; exact ⟨inX1, tyX1_ok, nmX1, rfl, by decide +kernel⟩
  | 2, h => cases h; exact ⟨inX2, tyX2_ok, nmX2, rfl, by decide +kernel⟩
  | 3, h => cases h; exact ⟨inX3, tyX3_ok, nmX3, rfl, by decide +kernel⟩
  | 4, h => cases h; exact ⟨inX4, tyX4_ok, nmX4, rfl, by decide +kernel⟩
  | 5, h => cases h; exact ⟨inX5, tyX5_ok, nmX5, rfl, by decide +kernel⟩
  | 6, h => cases h; exact ⟨inX6, tyX6_ok, nmX6, rfl, by decide +kernel⟩
  | 7, h => cases h; exact ⟨inX7, tyX7_ok, nmX7, rfl, by decide +kernel⟩
  | 8, h => cases h; exact ⟨inX8, tyX8_ok, nmX8, rfl, by decide +kernel⟩
  | 9, h => cases h; exact ⟨inX9, tyX9_ok, nmX9, rfl, by decide +kernel⟩
  | 10, h => cases h; exact ⟨inX10, tyX10_ok, nmX10, rfl, by decide +kernel⟩
  | 11, h => cases h; exact ⟨inX11, tyX11_ok, nmX11, rfl, by decide +kernel⟩
  | k + 12, h => simp [zcl] at h
set_option maxRecDepth 100000 in
theorem zw_oi : Cond.instanceMethod objectInit ∈ zTb := zi_5 (List.mem_of_getElem? (i := 12) rfl)
set_option maxRecDepth 100000 in
theorem zw_oc : Cond.code objectInit ⟨#[0xb1]⟩ 1 none ∈ zTb := zi_5 (List.mem_of_getElem? (i := 13) rfl)
set_option maxRecDepth 100000 in
theorem zw_ac : Cond.arrayClass .int ∈ zTb := zi_8 (List.mem_of_getElem? (i := 14) rfl)
set_option maxRecDepth 100000 in
theorem zw_cn : Cond.native arraycopyName ∈ zTb := zi_32 (List.mem_of_getElem? (i := 9) rfl)
set_option maxRecDepth 100000 in
theorem zw_cs : Cond.static arraycopyName ∈ zTb := zi_32 (List.mem_of_getElem? (i := 8) rfl)
set_option maxRecDepth 100000 in
theorem zw_ci : Cond.initialized "java/lang/System" ∈ zTb := zi_5 (List.mem_of_getElem? (i := 5) rfl)
set_option maxRecDepth 100000 in
theorem zw_mi : Cond.initialized "java/lang/Math" ∈ zTb := zi_4 (List.mem_of_getElem? (i := 13) rfl)
set_option maxRecDepth 100000 in
theorem zw_abss : Cond.static Lib.Math.abs.name ∈ zTb := zi_24 (List.mem_of_getElem? (i := 0) rfl)
set_option maxRecDepth 100000 in
theorem zw_absc : Cond.code Lib.Math.abs.name Lib.Math.abs.code 1 (some .int) ∈ zTb := zi_24 (List.mem_of_getElem? (i := 1) rfl)
set_option maxRecDepth 100000 in
theorem zw_maxs : Cond.static Lib.Math.max.name ∈ zTb := zi_11 (List.mem_of_getElem? (i := 2) rfl)
set_option maxRecDepth 100000 in
theorem zw_maxc : Cond.code Lib.Math.max.name Lib.Math.max.code 2 (some .int) ∈ zTb := zi_11 (List.mem_of_getElem? (i := 3) rfl)
set_option maxRecDepth 100000 in
theorem zw_mins : Cond.static Lib.Math.min.name ∈ zTb := zi_26 (List.mem_of_getElem? (i := 10) rfl)
set_option maxRecDepth 100000 in
theorem zw_minc : Cond.code Lib.Math.min.name Lib.Math.min.code 2 (some .int) ∈ zTb := zi_26 (List.mem_of_getElem? (i := 11) rfl)
