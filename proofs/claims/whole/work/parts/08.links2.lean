abbrev mX11_init : xM := (yX11_init, prog_1_method_1_code, 1, none, [])
set_option maxRecDepth 20000 in
theorem cw_X11_init : xCW mX11_init ∈ lw_tbl := xm1 28 rfl
abbrev mX0_init : xM := (yX0_init, prog_2_method_1_code, 2, none, [])
set_option maxRecDepth 20000 in
theorem cw_X0_init : xCW mX0_init ∈ lw_tbl := xm1 36 rfl
abbrev mX6_init : xM := (yX6_init, prog_8_method_1_code, 1, none, [])
set_option maxRecDepth 20000 in
theorem cw_X6_init : xCW mX6_init ∈ lw_tbl := xm1 42 rfl
abbrev mX4_init : xM := (yX4_init, prog_6_method_1_code, 1, none, [])
set_option maxRecDepth 20000 in
theorem cw_X4_init : xCW mX4_init ∈ lw_tbl := xm1 61 rfl
abbrev mX8_init : xM := (yX8_init, prog_10_method_1_code, 2, none, [])
set_option maxRecDepth 20000 in
theorem cw_X8_init : xCW mX8_init ∈ lw_tbl := xm1 75 rfl
abbrev mX9_init : xM := (yX9_init, prog_11_method_1_code, 1, none, [])
set_option maxRecDepth 20000 in
theorem cw_X9_init : xCW mX9_init ∈ lw_tbl := xm1 81 rfl
abbrev mX7_init : xM := (yX7_init, prog_9_method_1_code, 2, none, [])
set_option maxRecDepth 20000 in
theorem cw_X7_init : xCW mX7_init ∈ lw_tbl := xm1 213 rfl
abbrev mX10_init : xM := (yX10_init, prog_12_method_1_code, 1, none, [])
set_option maxRecDepth 20000 in
theorem cw_X10_init : xCW mX10_init ∈ lw_tbl := xm1 219 rfl
abbrev mX2_init : xM := (yX2_init, prog_4_method_1_code, 2, none, [])
set_option maxRecDepth 20000 in
theorem cw_X2_init : xCW mX2_init ∈ lw_tbl := xm2 30 rfl
abbrev mX3_init : xM := (yX3_init, prog_5_method_1_code, 3, none, [])
set_option maxRecDepth 20000 in
theorem cw_X3_init : xCW mX3_init ∈ lw_tbl := xm2 64 rfl
abbrev mX5_init : xM := (yX5_init, prog_7_method_1_code, 2, none, [])
set_option maxRecDepth 20000 in
theorem cw_X5_init : xCW mX5_init ∈ lw_tbl := xm2 80 rfl
abbrev mX1_init : xM := (yX1_init, prog_3_method_1_code, 4, none, [])
set_option maxRecDepth 20000 in
theorem cw_X1_init : xCW mX1_init ∈ lw_tbl := xm2 108 rfl
abbrev mX11_feed : xM := (yX11_feed, prog_1_method_2_code, 6, some .int, [])
set_option maxRecDepth 20000 in
theorem cw_X11_feed : xCW mX11_feed ∈ lw_tbl := xm2 186 rfl
abbrev mX11_putBytes : xM := (yX11_putBytes, prog_1_method_3_code, 3, none, [])
set_option maxRecDepth 20000 in
theorem cw_X11_putBytes : xCW mX11_putBytes ∈ lw_tbl := xm2 190 rfl
abbrev mX11_tell : xM := (yX11_tell, prog_1_method_4_code, 2, some .int, [])
set_option maxRecDepth 20000 in
theorem cw_X11_tell : xCW mX11_tell ∈ lw_tbl := xm2 194 rfl
abbrev mX11_refuse : xM := (yX11_refuse, prog_1_method_31_code, 2, some .int, [])
set_option maxRecDepth 20000 in
theorem cw_X11_refuse : xCW mX11_refuse ∈ lw_tbl := xm2 198 rfl
abbrev mX7_read : xM := (yX7_read, prog_9_method_2_code, 8, some .boolean, [])
set_option maxRecDepth 20000 in
theorem cw_X7_read : xCW mX7_read ∈ lw_tbl := xm2 202 rfl
abbrev mX10_read : xM := (yX10_read, prog_12_method_2_code, 6, none, [])
set_option maxRecDepth 20000 in
theorem cw_X10_read : xCW mX10_read ∈ lw_tbl := xm2 206 rfl
abbrev mX10_put : xM := (yX10_put, prog_12_method_3_code, 5, none, [])
set_option maxRecDepth 20000 in
theorem cw_X10_put : xCW mX10_put ∈ lw_tbl := xm2 210 rfl
abbrev mX10_typeOf : xM := (yX10_typeOf, prog_12_method_4_code, 2, some .int, [])
set_option maxRecDepth 20000 in
theorem cw_X10_typeOf : xCW mX10_typeOf ∈ lw_tbl := xm2 213 rfl
abbrev mX7_type : xM := (yX7_type, prog_9_method_12_code, 1, some .int, [])
set_option maxRecDepth 20000 in
theorem cw_X7_type : xCW mX7_type ∈ lw_tbl := xm2 217 rfl
abbrev mX7_readClause : xM := (yX7_readClause, prog_9_method_4_code, 3, some .boolean, [])
set_option maxRecDepth 20000 in
theorem cw_X7_readClause : xCW mX7_readClause ∈ lw_tbl := xm2 221 rfl
abbrev mX8_clear : xM := (yX8_clear, prog_10_method_2_code, 1, none, [])
set_option maxRecDepth 20000 in
theorem cw_X8_clear : xCW mX8_clear ∈ lw_tbl := xm2 225 rfl
abbrev mX9_clear : xM := (yX9_clear, prog_11_method_2_code, 2, none, [])
set_option maxRecDepth 20000 in
theorem cw_X9_clear : xCW mX9_clear ∈ lw_tbl := xm2 229 rfl
abbrev mX7_readAtom : xM := (yX7_readAtom, prog_9_method_9_code, 4, some .boolean, [])
set_option maxRecDepth 20000 in
theorem cw_X7_readAtom : xCW mX7_readAtom ∈ lw_tbl := xm2 233 rfl
abbrev mX7_start : xM := (yX7_start, prog_9_method_14_code, 1, some .int, [])
set_option maxRecDepth 20000 in
theorem cw_X7_start : xCW mX7_start ∈ lw_tbl := xm2 238 rfl
abbrev mX7_fail : xM := (yX7_fail, prog_9_method_15_code, 3, some .boolean, [])
set_option maxRecDepth 20000 in
theorem cw_X7_fail : xCW mX7_fail ∈ lw_tbl := xm3 2 rfl
abbrev mX6_findOrAdd : xM := (yX6_findOrAdd, prog_8_method_3_code, 4, some .int, [])
set_option maxRecDepth 20000 in
theorem cw_X6_findOrAdd : xCW mX6_findOrAdd ∈ lw_tbl := xm3 6 rfl
abbrev mX7_readArg : xM := (yX7_readArg, prog_9_method_11_code, 5, some .boolean, [])
set_option maxRecDepth 20000 in
theorem cw_X7_readArg : xCW mX7_readArg ∈ lw_tbl := xm3 10 rfl
abbrev mX8_findOrAddSign : xM := (yX8_findOrAddSign, prog_10_method_3_code, 3, some .int, [])
set_option maxRecDepth 20000 in
theorem cw_X8_findOrAddSign : xCW mX8_findOrAddSign ∈ lw_tbl := xm3 14 rfl
abbrev mX9_setArg : xM := (yX9_setArg, prog_11_method_3_code, 4, none, [])
set_option maxRecDepth 20000 in
theorem cw_X9_setArg : xCW mX9_setArg ∈ lw_tbl := xm3 18 rfl
abbrev mX7_hasItsPlaces : xM := (yX7_hasItsPlaces, prog_9_method_10_code, 4, some .boolean, [])
set_option maxRecDepth 20000 in
theorem cw_X7_hasItsPlaces : xCW mX7_hasItsPlaces ∈ lw_tbl := xm3 22 rfl
abbrev mX7_endFact : xM := (yX7_endFact, prog_9_method_5_code, 4, some .boolean, [])
set_option maxRecDepth 20000 in
theorem cw_X7_endFact : xCW mX7_endFact ∈ lw_tbl := xm3 26 rfl
abbrev mJ9_max_7cf53 : xM := (yJ9_max_7cf53, prog_19_method_65_code, 2, some .int, [])
set_option maxRecDepth 20000 in
theorem cw_J9_max_7cf53 : xCW mJ9_max_7cf53 ∈ lw_tbl := xm3 29 rfl
abbrev mX7_readTerm : xM := (yX7_readTerm, prog_9_method_7_code, 3, some .boolean, [])
set_option maxRecDepth 20000 in
theorem cw_X7_readTerm : xCW mX7_readTerm ∈ lw_tbl := xm3 33 rfl
abbrev mX7_nextType : xM := (yX7_nextType, prog_9_method_13_code, 1, some .int, [])
set_option maxRecDepth 20000 in
theorem cw_X7_nextType : xCW mX7_nextType ∈ lw_tbl := xm3 37 rfl
abbrev mX7_readUnlike : xM := (yX7_readUnlike, prog_9_method_8_code, 3, some .boolean, [])
set_option maxRecDepth 20000 in
theorem cw_X7_readUnlike : xCW mX7_readUnlike ∈ lw_tbl := xm3 41 rfl
abbrev mX7_endRule : xM := (yX7_endRule, prog_9_method_6_code, 4, some .boolean, [])
set_option maxRecDepth 20000 in
theorem cw_X7_endRule : xCW mX7_endRule ∈ lw_tbl := xm3 45 rfl
abbrev mX8_loosePlace : xM := (yX8_loosePlace, prog_10_method_4_code, 2, some .int, [])
set_option maxRecDepth 20000 in
theorem cw_X8_loosePlace : xCW mX8_loosePlace ∈ lw_tbl := xm3 49 rfl
abbrev mX8_isLoose : xM := (yX8_isLoose, prog_10_method_5_code, 4, some .boolean, [])
set_option maxRecDepth 20000 in
theorem cw_X8_isLoose : xCW mX8_isLoose ∈ lw_tbl := xm3 53 rfl
abbrev mX7_refusesNoneOfItself : xM := (yX7_refusesNoneOfItself, prog_9_method_3_code, 3, some .boolean, [])
set_option maxRecDepth 20000 in
theorem cw_X7_refusesNoneOfItself : xCW mX7_refusesNoneOfItself ∈ lw_tbl := xm3 57 rfl
abbrev mX4_settle : xM := (yX4_settle, prog_6_method_2_code, 7, some .boolean, [])
set_option maxRecDepth 20000 in
theorem cw_X4_settle : xCW mX4_settle ∈ lw_tbl := xm3 61 rfl
abbrev mJ7_fill_53178 : xM := (yJ7_fill_53178, prog_24_method_103_code, 4, none, [])
set_option maxRecDepth 20000 in
theorem cw_J7_fill_53178 : xCW mJ7_fill_53178 ∈ lw_tbl := xm3 64 rfl
abbrev mX4_leastFor : xM := (yX4_leastFor, prog_6_method_3_code, 6, some .int, [])
set_option maxRecDepth 20000 in
theorem cw_X4_leastFor : xCW mX4_leastFor ∈ lw_tbl := xm3 68 rfl
abbrev mX0_setFact : xM := (yX0_setFact, prog_2_method_5_code, 3, some .boolean, [])
set_option maxRecDepth 20000 in
theorem cw_X0_setFact : xCW mX0_setFact ∈ lw_tbl := xm3 73 rfl
abbrev mX0_isFact : xM := (yX0_isFact, prog_2_method_4_code, 2, some .boolean, [])
set_option maxRecDepth 20000 in
theorem cw_X0_isFact : xCW mX0_isFact ∈ lw_tbl := xm3 77 rfl
abbrev mX11_fault : xM := (yX11_fault, prog_1_method_5_code, 1, some .int, [])
set_option maxRecDepth 20000 in
theorem cw_X11_fault : xCW mX11_fault ∈ lw_tbl := xm3 81 rfl
abbrev mX11_where : xM := (yX11_where, prog_1_method_6_code, 1, some .int, [])
set_option maxRecDepth 20000 in
theorem cw_X11_where : xCW mX11_where ∈ lw_tbl := xm3 85 rfl
abbrev mX11_atom : xM := (yX11_atom, prog_1_method_7_code, 7, some .int, [])
set_option maxRecDepth 20000 in
theorem cw_X11_atom : xCW mX11_atom ∈ lw_tbl := xm3 89 rfl
abbrev mX6_has : xM := (yX6_has, prog_8_method_2_code, 2, some .boolean, [])
set_option maxRecDepth 20000 in
theorem cw_X6_has : xCW mX6_has ∈ lw_tbl := xm3 93 rfl
abbrev mX11_places : xM := (yX11_places, prog_1_method_9_code, 2, some .int, [])
set_option maxRecDepth 20000 in
theorem cw_X11_places : xCW mX11_places ∈ lw_tbl := xm3 97 rfl
abbrev mX11_layer : xM := (yX11_layer, prog_1_method_10_code, 2, some .int, [])
set_option maxRecDepth 20000 in
theorem cw_X11_layer : xCW mX11_layer ∈ lw_tbl := xm3 101 rfl
abbrev mX11_fact : xM := (yX11_fact, prog_1_method_11_code, 3, some .int, [])
set_option maxRecDepth 20000 in
theorem cw_X11_fact : xCW mX11_fact ∈ lw_tbl := xm3 105 rfl
abbrev mX0_hasAtom : xM := (yX0_hasAtom, prog_2_method_3_code, 5, some .boolean, [])
set_option maxRecDepth 20000 in
theorem cw_X0_hasAtom : xCW mX0_hasAtom ∈ lw_tbl := xm3 109 rfl
abbrev mX11_drop : xM := (yX11_drop, prog_1_method_12_code, 2, some .boolean, [])
set_option maxRecDepth 20000 in
theorem cw_X11_drop : xCW mX11_drop ∈ lw_tbl := xm3 115 rfl
abbrev mX0_hasRule : xM := (yX0_hasRule, prog_2_method_2_code, 2, some .boolean, [])
set_option maxRecDepth 20000 in
theorem cw_X0_hasRule : xCW mX0_hasRule ∈ lw_tbl := xm3 119 rfl
abbrev mX0_removeRule : xM := (yX0_removeRule, prog_2_method_6_code, 4, none, [])
set_option maxRecDepth 20000 in
theorem cw_X0_removeRule : xCW mX0_removeRule ∈ lw_tbl := xm3 123 rfl
abbrev mX11_follows : xM := (yX11_follows, prog_1_method_13_code, 2, some .int, [])
set_option maxRecDepth 20000 in
theorem cw_X11_follows : xCW mX11_follows ∈ lw_tbl := xm3 128 rfl
abbrev mX11_settled : xM := (yX11_settled, prog_1_method_32_code, 1, some (.object "RuleCourt$Model"), [])
set_option maxRecDepth 20000 in
theorem cw_X11_settled : xCW mX11_settled ∈ lw_tbl := xm3 133 rfl
abbrev mX5_start : xM := (yX5_start, prog_7_method_2_code, 3, none, [])
set_option maxRecDepth 20000 in
theorem cw_X5_start : xCW mX5_start ∈ lw_tbl := xm3 137 rfl
abbrev mX5_setNoSteps : xM := (yX5_setNoSteps, prog_7_method_3_code, 3, none, [])
set_option maxRecDepth 20000 in
theorem cw_X5_setNoSteps : xCW mX5_setNoSteps ∈ lw_tbl := xm3 146 rfl
abbrev mX3_settle : xM := (yX3_settle, prog_5_method_2_code, 12, none, [])
set_option maxRecDepth 20000 in
theorem cw_X3_settle : xCW mX3_settle ∈ lw_tbl := xm3 150 rfl
abbrev mX0_layerCount : xM := (yX0_layerCount, prog_2_method_7_code, 3, some .int, [])
set_option maxRecDepth 20000 in
theorem cw_X0_layerCount : xCW mX0_layerCount ∈ lw_tbl := xm3 155 rfl
abbrev mX5_has : xM := (yX5_has, prog_7_method_4_code, 2, some .boolean, [])
set_option maxRecDepth 20000 in
theorem cw_X5_has : xCW mX5_has ∈ lw_tbl := xm3 160 rfl
abbrev mX3_isDue : xM := (yX3_isDue, prog_5_method_3_code, 6, some .boolean, [])
set_option maxRecDepth 20000 in
theorem cw_X3_isDue : xCW mX3_isDue ∈ lw_tbl := xm3 164 rfl
abbrev mX2_begin : xM := (yX2_begin, prog_4_method_6_code, 4, none, [])
set_option maxRecDepth 20000 in
theorem cw_X2_begin : xCW mX2_begin ∈ lw_tbl := xm3 168 rfl
abbrev mX2_walk : xM := (yX2_walk, prog_4_method_9_code, 9, none, [])
set_option maxRecDepth 20000 in
theorem cw_X2_walk : xCW mX2_walk ∈ lw_tbl := xm3 173 rfl
abbrev mX2_arrive : xM := (yX2_arrive, prog_4_method_12_code, 2, none, [])
set_option maxRecDepth 20000 in
theorem cw_X2_arrive : xCW mX2_arrive ∈ lw_tbl := xm3 178 rfl
abbrev mX2_numberOf : xM := (yX2_numberOf, prog_4_method_15_code, 2, some .int, [])
set_option maxRecDepth 20000 in
theorem cw_X2_numberOf : xCW mX2_numberOf ∈ lw_tbl := xm3 181 rfl
abbrev mX2_thingOf : xM := (yX2_thingOf, prog_4_method_14_code, 2, some .int, [])
set_option maxRecDepth 20000 in
theorem cw_X2_thingOf : xCW mX2_thingOf ∈ lw_tbl := xm3 184 rfl
abbrev mX5_take : xM := (yX5_take, prog_7_method_6_code, 4, none, [])
set_option maxRecDepth 20000 in
theorem cw_X5_take : xCW mX5_take ∈ lw_tbl := xm3 188 rfl
abbrev mX5_turn : xM := (yX5_turn, prog_7_method_5_code, 2, none, [])
set_option maxRecDepth 20000 in
theorem cw_X5_turn : xCW mX5_turn ∈ lw_tbl := xm3 193 rfl
abbrev mX2_freeSign : xM := (yX2_freeSign, prog_4_method_13_code, 3, some .int, [])
set_option maxRecDepth 20000 in
theorem cw_X2_freeSign : xCW mX2_freeSign ∈ lw_tbl := xm3 198 rfl
abbrev mX2_secondsFor : xM := (yX2_secondsFor, prog_4_method_11_code, 4, some .int, [])
set_option maxRecDepth 20000 in
theorem cw_X2_secondsFor : xCW mX2_secondsFor ∈ lw_tbl := xm3 202 rfl
abbrev mX2_walkSecond : xM := (yX2_walkSecond, prog_4_method_10_code, 14, none, [])
set_option maxRecDepth 20000 in
theorem cw_X2_walkSecond : xCW mX2_walkSecond ∈ lw_tbl := xm3 206 rfl
abbrev mX11_many : xM := (yX11_many, prog_1_method_14_code, 5, some .int, [])
set_option maxRecDepth 20000 in
theorem cw_X11_many : xCW mX11_many ∈ lw_tbl := xm3 212 rfl
abbrev mJ6_bitCount_0f7a4 : xM := (yJ6_bitCount_0f7a4, prog_18_method_49_code, 1, some .int, [])
set_option maxRecDepth 20000 in
theorem cw_J6_bitCount_0f7a4 : xCW mJ6_bitCount_0f7a4 ∈ lw_tbl := xm3 215 rfl
abbrev mX11_one : xM := (yX11_one, prog_1_method_15_code, 7, some .int, [])
set_option maxRecDepth 20000 in
theorem cw_X11_one : xCW mX11_one ∈ lw_tbl := xm3 222 rfl
abbrev mX11_steps : xM := (yX11_steps, prog_1_method_16_code, 3, some .int, [])
set_option maxRecDepth 20000 in
theorem cw_X11_steps : xCW mX11_steps ∈ lw_tbl := xm3 226 rfl
abbrev mX11_why : xM := (yX11_why, prog_1_method_17_code, 4, some .int, [])
set_option maxRecDepth 20000 in
theorem cw_X11_why : xCW mX11_why ∈ lw_tbl := xm3 230 rfl
abbrev mX2_seekLeast : xM := (yX2_seekLeast, prog_4_method_4_code, 4, some .boolean, [])
set_option maxRecDepth 20000 in
theorem cw_X2_seekLeast : xCW mX2_seekLeast ∈ lw_tbl := xm3 234 rfl
abbrev mX2_bindHead : xM := (yX2_bindHead, prog_4_method_7_code, 2, some .boolean, [])
set_option maxRecDepth 20000 in
theorem cw_X2_bindHead : xCW mX2_bindHead ∈ lw_tbl := xm3 239 rfl
abbrev mX2_bind : xM := (yX2_bind, prog_4_method_8_code, 4, some .boolean, [])
set_option maxRecDepth 20000 in
theorem cw_X2_bind : xCW mX2_bind ∈ lw_tbl := xm4 3 rfl
abbrev mX11_keepReasons : xM := (yX11_keepReasons, prog_1_method_18_code, 4, none, [])
set_option maxRecDepth 20000 in
theorem cw_X11_keepReasons : xCW mX11_keepReasons ∈ lw_tbl := xm4 7 rfl
abbrev mX2_leastNumberOf : xM := (yX2_leastNumberOf, prog_4_method_5_code, 2, some .int, [])
set_option maxRecDepth 20000 in
theorem cw_X2_leastNumberOf : xCW mX2_leastNumberOf ∈ lw_tbl := xm4 11 rfl
abbrev mX11_because : xM := (yX11_because, prog_1_method_19_code, 2, some .int, [])
set_option maxRecDepth 20000 in
theorem cw_X11_because : xCW mX11_because ∈ lw_tbl := xm4 15 rfl
abbrev mX11_comes : xM := (yX11_comes, prog_1_method_20_code, 3, some .int, [])
set_option maxRecDepth 20000 in
theorem cw_X11_comes : xCW mX11_comes ∈ lw_tbl := xm4 19 rfl
abbrev mX2_reachFor : xM := (yX2_reachFor, prog_4_method_3_code, 4, some .int, [])
set_option maxRecDepth 20000 in
theorem cw_X2_reachFor : xCW mX2_reachFor ∈ lw_tbl := xm4 23 rfl
abbrev mX11_rule : xM := (yX11_rule, prog_1_method_21_code, 4, some .int, [])
set_option maxRecDepth 20000 in
theorem cw_X11_rule : xCW mX11_rule ∈ lw_tbl := xm4 27 rfl
abbrev mX2_reach : xM := (yX2_reach, prog_4_method_2_code, 3, some .int, [])
set_option maxRecDepth 20000 in
theorem cw_X2_reach : xCW mX2_reach ∈ lw_tbl := xm4 31 rfl
abbrev mX11_isSpare : xM := (yX11_isSpare, prog_1_method_22_code, 3, some .boolean, [])
set_option maxRecDepth 20000 in
theorem cw_X11_isSpare : xCW mX11_isSpare ∈ lw_tbl := xm4 35 rfl
abbrev mX5_countBeyond : xM := (yX5_countBeyond, prog_7_method_7_code, 4, some .int, [])
set_option maxRecDepth 20000 in
theorem cw_X5_countBeyond : xCW mX5_countBeyond ∈ lw_tbl := xm4 39 rfl
abbrev mX11_term : xM := (yX11_term, prog_1_method_23_code, 5, some .int, [])
set_option maxRecDepth 20000 in
theorem cw_X11_term : xCW mX11_term ∈ lw_tbl := xm4 44 rfl
abbrev mX11_go : xM := (yX11_go, prog_1_method_24_code, 3, some .int, [])
set_option maxRecDepth 20000 in
theorem cw_X11_go : xCW mX11_go ∈ lw_tbl := xm4 48 rfl
abbrev mX1_aimAt : xM := (yX1_aimAt, prog_3_method_2_code, 3, none, [])
set_option maxRecDepth 20000 in
theorem cw_X1_aimAt : xCW mX1_aimAt ∈ lw_tbl := xm4 52 rfl
abbrev mX0_kindsBehind : xM := (yX0_kindsBehind, prog_2_method_8_code, 5, some .int, [])
set_option maxRecDepth 20000 in
theorem cw_X0_kindsBehind : xCW mX0_kindsBehind ∈ lw_tbl := xm4 56 rfl
abbrev mX0_kindsIn : xM := (yX0_kindsIn, prog_2_method_9_code, 3, some .int, [])
set_option maxRecDepth 20000 in
theorem cw_X0_kindsIn : xCW mX0_kindsIn ∈ lw_tbl := xm4 59 rfl
abbrev mX1_seek : xM := (yX1_seek, prog_3_method_3_code, 5, some .boolean, [])
set_option maxRecDepth 20000 in
theorem cw_X1_seek : xCW mX1_seek ∈ lw_tbl := xm4 64 rfl
abbrev mX1_keepPicks : xM := (yX1_keepPicks, prog_3_method_4_code, 3, none, [])
set_option maxRecDepth 20000 in
theorem cw_X1_keepPicks : xCW mX1_keepPicks ∈ lw_tbl := xm4 72 rfl
abbrev mX1_nextPicks : xM := (yX1_nextPicks, prog_3_method_5_code, 4, some .boolean, [])
set_option maxRecDepth 20000 in
theorem cw_X1_nextPicks : xCW mX1_nextPicks ∈ lw_tbl := xm4 76 rfl
abbrev mX11_gone : xM := (yX11_gone, prog_1_method_25_code, 2, some .int, [])
set_option maxRecDepth 20000 in
theorem cw_X11_gone : xCW mX11_gone ∈ lw_tbl := xm4 80 rfl
abbrev mX11_derived : xM := (yX11_derived, prog_1_method_26_code, 4, some .int, [])
set_option maxRecDepth 20000 in
theorem cw_X11_derived : xCW mX11_derived ∈ lw_tbl := xm4 84 rfl
abbrev mX11_deepest : xM := (yX11_deepest, prog_1_method_27_code, 4, some .int, [])
set_option maxRecDepth 20000 in
theorem cw_X11_deepest : xCW mX11_deepest ∈ lw_tbl := xm4 88 rfl
abbrev mX11_turned : xM := (yX11_turned, prog_1_method_28_code, 4, some .int, [])
set_option maxRecDepth 20000 in
theorem cw_X11_turned : xCW mX11_turned ∈ lw_tbl := xm4 93 rfl
abbrev mX11_count : xM := (yX11_count, prog_1_method_29_code, 2, some .int, [])
set_option maxRecDepth 20000 in
theorem cw_X11_count : xCW mX11_count ∈ lw_tbl := xm4 98 rfl
abbrev mX11_trouble : xM := (yX11_trouble, prog_1_method_30_code, 1, some .int, [])
set_option maxRecDepth 20000 in
theorem cw_X11_trouble : xCW mX11_trouble ∈ lw_tbl := xm4 103 rfl
abbrev mL_name : xM := (yL_name, method_3_code, 6, some .int, [(0, 12, 15, 13)])
set_option maxRecDepth 20000 in
theorem cw_L_name : xCW mL_name ∈ lw_tbl := xm4 106 rfl
abbrev mX11_name : xM := (yX11_name, prog_1_method_8_code, 5, some .int, [])
set_option maxRecDepth 20000 in
theorem cw_X11_name : xCW mX11_name ∈ lw_tbl := xm4 111 rfl
abbrev mX6_letter : xM := (yX6_letter, prog_8_method_4_code, 4, some .int, [])
set_option maxRecDepth 20000 in
theorem cw_X6_letter : xCW mX6_letter ∈ lw_tbl := xm4 115 rfl
abbrev mX14_init : xM := (yX14_init, prog_14_method_1_code, 1, none, [])
set_option maxRecDepth 20000 in
theorem cw_X14_init : xCW mX14_init ∈ lw_tbl := xm4 188 rfl
abbrev mX13_init : xM := (yX13_init, prog_16_method_1_code, 1, none, [])
set_option maxRecDepth 20000 in
theorem cw_X13_init : xCW mX13_init ∈ lw_tbl := xm4 203 rfl
abbrev mX14_thrown : xM := (yX14_thrown, prog_14_method_2_code, 1, some .int, [])
set_option maxRecDepth 20000 in
theorem cw_X14_thrown : xCW mX14_thrown ∈ lw_tbl := xm5 115 rfl
abbrev mX14_feed : xM := (yX14_feed, prog_14_method_24_code, 8, some .int, [])
set_option maxRecDepth 20000 in
theorem cw_X14_feed : xCW mX14_feed ∈ lw_tbl := xm5 119 rfl
abbrev mX14_tell : xM := (yX14_tell, prog_14_method_25_code, 7, some .int, [(95, 186, 189, 46)])
set_option maxRecDepth 20000 in
theorem cw_X14_tell : xCW mX14_tell ∈ lw_tbl := xm5 123 rfl
abbrev mX14_refused : xM := (yX14_refused, prog_14_method_3_code, 2, some .int, [])
set_option maxRecDepth 20000 in
theorem cw_X14_refused : xCW mX14_refused ∈ lw_tbl := xm5 127 rfl
abbrev mX14_next : xM := (yX14_next, prog_14_method_14_code, 3, none, [])
set_option maxRecDepth 20000 in
theorem cw_X14_next : xCW mX14_next ∈ lw_tbl := xm5 131 rfl
abbrev mX14_byteAt : xM := (yX14_byteAt, prog_14_method_12_code, 2, some .int, [])
set_option maxRecDepth 20000 in
theorem cw_X14_byteAt : xCW mX14_byteAt ∈ lw_tbl := xm5 135 rfl
abbrev mX14_isLetter : xM := (yX14_isLetter, prog_14_method_13_code, 1, some .boolean, [])
set_option maxRecDepth 20000 in
theorem cw_X14_isLetter : xCW mX14_isLetter ∈ lw_tbl := xm5 138 rfl
abbrev mX14_readClause : xM := (yX14_readClause, prog_14_method_21_code, 3, none, [])
set_option maxRecDepth 20000 in
theorem cw_X14_readClause : xCW mX14_readClause ∈ lw_tbl := xm5 143 rfl
abbrev mX12_init : xM := (yX12_init, prog_15_method_1_code, 1, none, [])
set_option maxRecDepth 20000 in
theorem cw_X12_init : xCW mX12_init ∈ lw_tbl := xm5 147 rfl
abbrev mX14_readAtom : xM := (yX14_readAtom, prog_14_method_20_code, 7, none, [])
set_option maxRecDepth 20000 in
theorem cw_X14_readAtom : xCW mX14_readAtom ∈ lw_tbl := xm5 183 rfl
abbrev mX14_isNot : xM := (yX14_isNot, prog_14_method_16_code, 1, some .boolean, [])
set_option maxRecDepth 20000 in
theorem cw_X14_isNot : xCW mX14_isNot ∈ lw_tbl := xm5 187 rfl
abbrev mX14_stop : xM := (yX14_stop, prog_14_method_11_code, 3, some (.object "RuleCourtModel$Stop"), [])
set_option maxRecDepth 20000 in
theorem cw_X14_stop : xCW mX14_stop ∈ lw_tbl := xm5 192 rfl
abbrev mX14_is : xM := (yX14_is, prog_14_method_15_code, 2, some .boolean, [])
set_option maxRecDepth 20000 in
theorem cw_X14_is : xCW mX14_is ∈ lw_tbl := xm5 196 rfl
abbrev mX14_readArg : xM := (yX14_readArg, prog_14_method_19_code, 3, some .int, [])
set_option maxRecDepth 20000 in
theorem cw_X14_readArg : xCW mX14_readArg ∈ lw_tbl := xm5 200 rfl
abbrev mX14_thingHere : xM := (yX14_thingHere, prog_14_method_18_code, 2, some .int, [])
set_option maxRecDepth 20000 in
theorem cw_X14_thingHere : xCW mX14_thingHere ∈ lw_tbl := xm5 204 rfl
abbrev mX12_signOf : xM := (yX12_signOf, prog_15_method_2_code, 3, some .int, [])
set_option maxRecDepth 20000 in
theorem cw_X12_signOf : xCW mX12_signOf ∈ lw_tbl := xm5 208 rfl
abbrev mX14_numberOf : xM := (yX14_numberOf, prog_14_method_23_code, 2, some .int, [])
set_option maxRecDepth 20000 in
theorem cw_X14_numberOf : xCW mX14_numberOf ∈ lw_tbl := xm5 211 rfl
abbrev mX14_readTerm : xM := (yX14_readTerm, prog_14_method_22_code, 2, none, [])
set_option maxRecDepth 20000 in
theorem cw_X14_readTerm : xCW mX14_readTerm ∈ lw_tbl := xm5 216 rfl
abbrev mX14_isBeforeUnlike : xM := (yX14_isBeforeUnlike, prog_14_method_17_code, 2, some .boolean, [])
set_option maxRecDepth 20000 in
theorem cw_X14_isBeforeUnlike : xCW mX14_isBeforeUnlike ∈ lw_tbl := xm5 220 rfl
abbrev mX14_layers : xM := (yX14_layers, prog_14_method_26_code, 7, some .boolean, [])
set_option maxRecDepth 20000 in
theorem cw_X14_layers : xCW mX14_layers ∈ lw_tbl := xm5 224 rfl
abbrev mX14_done : xM := (yX14_done, prog_14_method_5_code, 2, some .int, [])
set_option maxRecDepth 20000 in
theorem cw_X14_done : xCW mX14_done ∈ lw_tbl := xm5 228 rfl
abbrev mX14_fault : xM := (yX14_fault, prog_14_method_27_code, 1, some .int, [])
set_option maxRecDepth 20000 in
theorem cw_X14_fault : xCW mX14_fault ∈ lw_tbl := xm5 232 rfl
abbrev mX14_where : xM := (yX14_where, prog_14_method_28_code, 1, some .int, [])
set_option maxRecDepth 20000 in
theorem cw_X14_where : xCW mX14_where ∈ lw_tbl := xm5 236 rfl
abbrev mX14_atom : xM := (yX14_atom, prog_14_method_29_code, 5, some .int, [])
set_option maxRecDepth 20000 in
theorem cw_X14_atom : xCW mX14_atom ∈ lw_tbl := xm6 0 rfl
abbrev mX14_isKind : xM := (yX14_isKind, prog_14_method_8_code, 2, some .boolean, [])
set_option maxRecDepth 20000 in
theorem cw_X14_isKind : xCW mX14_isKind ∈ lw_tbl := xm6 4 rfl
abbrev mX14_in : xM := (yX14_in, prog_14_method_7_code, 3, some .boolean, [])
set_option maxRecDepth 20000 in
theorem cw_X14_in : xCW mX14_in ∈ lw_tbl := xm6 7 rfl
abbrev mX14_isAtom : xM := (yX14_isAtom, prog_14_method_10_code, 3, some .boolean, [])
set_option maxRecDepth 20000 in
theorem cw_X14_isAtom : xCW mX14_isAtom ∈ lw_tbl := xm6 11 rfl
abbrev mX14_name : xM := (yX14_name, prog_14_method_30_code, 6, some .int, [])
set_option maxRecDepth 20000 in
theorem cw_X14_name : xCW mX14_name ∈ lw_tbl := xm6 15 rfl
abbrev mX14_places : xM := (yX14_places, prog_14_method_31_code, 2, some .int, [])
set_option maxRecDepth 20000 in
theorem cw_X14_places : xCW mX14_places ∈ lw_tbl := xm6 20 rfl
abbrev mX14_layer : xM := (yX14_layer, prog_14_method_32_code, 3, some .int, [])
set_option maxRecDepth 20000 in
theorem cw_X14_layer : xCW mX14_layer ∈ lw_tbl := xm6 24 rfl
abbrev mX14_fact : xM := (yX14_fact, prog_14_method_33_code, 4, some .int, [])
set_option maxRecDepth 20000 in
theorem cw_X14_fact : xCW mX14_fact ∈ lw_tbl := xm6 28 rfl
abbrev mX14_drop : xM := (yX14_drop, prog_14_method_34_code, 3, some .boolean, [])
set_option maxRecDepth 20000 in
theorem cw_X14_drop : xCW mX14_drop ∈ lw_tbl := xm6 32 rfl
abbrev mX14_isRule : xM := (yX14_isRule, prog_14_method_9_code, 2, some .boolean, [])
set_option maxRecDepth 20000 in
theorem cw_X14_isRule : xCW mX14_isRule ∈ lw_tbl := xm6 36 rfl
abbrev mX14_denied : xM := (yX14_denied, prog_14_method_4_code, 2, some .boolean, [])
set_option maxRecDepth 20000 in
theorem cw_X14_denied : xCW mX14_denied ∈ lw_tbl := xm6 40 rfl
abbrev mX14_granted : xM := (yX14_granted, prog_14_method_6_code, 1, some .boolean, [])
set_option maxRecDepth 20000 in
theorem cw_X14_granted : xCW mX14_granted ∈ lw_tbl := xm6 44 rfl
abbrev mX14_follows : xM := (yX14_follows, prog_14_method_44_code, 2, some .int, [])
set_option maxRecDepth 20000 in
theorem cw_X14_follows : xCW mX14_follows ∈ lw_tbl := xm6 48 rfl
abbrev mX14_works : xM := (yX14_works, prog_14_method_35_code, 5, none, [])
set_option maxRecDepth 20000 in
theorem cw_X14_works : xCW mX14_works ∈ lw_tbl := xm6 52 rfl
abbrev mX14_takes : xM := (yX14_takes, prog_14_method_36_code, 3, none, [])
set_option maxRecDepth 20000 in
theorem cw_X14_takes : xCW mX14_takes ∈ lw_tbl := xm6 57 rfl
abbrev mX14_goes : xM := (yX14_goes, prog_14_method_40_code, 9, none, [])
set_option maxRecDepth 20000 in
theorem cw_X14_goes : xCW mX14_goes ∈ lw_tbl := xm6 61 rfl
abbrev mX14_hold : xM := (yX14_hold, prog_14_method_41_code, 4, some .boolean, [])
set_option maxRecDepth 20000 in
theorem cw_X14_hold : xCW mX14_hold ∈ lw_tbl := xm6 65 rfl
abbrev mX14_holds : xM := (yX14_holds, prog_14_method_42_code, 3, some .boolean, [])
set_option maxRecDepth 20000 in
theorem cw_X14_holds : xCW mX14_holds ∈ lw_tbl := xm6 69 rfl
abbrev mX14_argOf : xM := (yX14_argOf, prog_14_method_37_code, 2, some .int, [])
set_option maxRecDepth 20000 in
theorem cw_X14_argOf : xCW mX14_argOf ∈ lw_tbl := xm6 73 rfl
abbrev mX14_atomOf : xM := (yX14_atomOf, prog_14_method_38_code, 3, some .int, [])
set_option maxRecDepth 20000 in
theorem cw_X14_atomOf : xCW mX14_atomOf ∈ lw_tbl := xm6 77 rfl
abbrev mX14_fits : xM := (yX14_fits, prog_14_method_39_code, 3, some .boolean, [])
set_option maxRecDepth 20000 in
theorem cw_X14_fits : xCW mX14_fits ∈ lw_tbl := xm6 81 rfl
abbrev mX14_many : xM := (yX14_many, prog_14_method_46_code, 3, some .int, [])
set_option maxRecDepth 20000 in
theorem cw_X14_many : xCW mX14_many ∈ lw_tbl := xm6 85 rfl
abbrev mX14_oneOf : xM := (yX14_oneOf, prog_14_method_45_code, 5, some .int, [])
set_option maxRecDepth 20000 in
theorem cw_X14_oneOf : xCW mX14_oneOf ∈ lw_tbl := xm6 89 rfl
abbrev mX14_one : xM := (yX14_one, prog_14_method_47_code, 3, some .int, [])
set_option maxRecDepth 20000 in
theorem cw_X14_one : xCW mX14_one ∈ lw_tbl := xm6 93 rfl
abbrev mX14_steps : xM := (yX14_steps, prog_14_method_48_code, 2, some .int, [])
set_option maxRecDepth 20000 in
theorem cw_X14_steps : xCW mX14_steps ∈ lw_tbl := xm6 97 rfl
abbrev mX14_why : xM := (yX14_why, prog_14_method_52_code, 6, some .int, [])
set_option maxRecDepth 20000 in
theorem cw_X14_why : xCW mX14_why ∈ lw_tbl := xm6 101 rfl
abbrev mX14_ways : xM := (yX14_ways, prog_14_method_50_code, 4, some .int, [])
set_option maxRecDepth 20000 in
theorem cw_X14_ways : xCW mX14_ways ∈ lw_tbl := xm6 105 rfl
abbrev mX14_gives : xM := (yX14_gives, prog_14_method_51_code, 5, none, [])
set_option maxRecDepth 20000 in
theorem cw_X14_gives : xCW mX14_gives ∈ lw_tbl := xm6 109 rfl
abbrev mX14_leads : xM := (yX14_leads, prog_14_method_49_code, 6, some .boolean, [])
set_option maxRecDepth 20000 in
theorem cw_X14_leads : xCW mX14_leads ∈ lw_tbl := xm6 113 rfl
abbrev mX14_because : xM := (yX14_because, prog_14_method_53_code, 2, some .int, [])
set_option maxRecDepth 20000 in
theorem cw_X14_because : xCW mX14_because ∈ lw_tbl := xm6 117 rfl
abbrev mX14_comes : xM := (yX14_comes, prog_14_method_54_code, 9, some .int, [])
set_option maxRecDepth 20000 in
theorem cw_X14_comes : xCW mX14_comes ∈ lw_tbl := xm6 121 rfl
abbrev mX14_rule : xM := (yX14_rule, prog_14_method_58_code, 3, some .int, [])
set_option maxRecDepth 20000 in
theorem cw_X14_rule : xCW mX14_rule ∈ lw_tbl := xm6 125 rfl
abbrev mX14_isIdle : xM := (yX14_isIdle, prog_14_method_55_code, 5, some .boolean, [])
set_option maxRecDepth 20000 in
theorem cw_X14_isIdle : xCW mX14_isIdle ∈ lw_tbl := xm6 129 rfl
abbrev mX14_isSpare : xM := (yX14_isSpare, prog_14_method_57_code, 4, some .boolean, [])
set_option maxRecDepth 20000 in
theorem cw_X14_isSpare : xCW mX14_isSpare ∈ lw_tbl := xm6 133 rfl
abbrev mX14_remembers : xM := (yX14_remembers, prog_14_method_56_code, 2, none, [])
set_option maxRecDepth 20000 in
theorem cw_X14_remembers : xCW mX14_remembers ∈ lw_tbl := xm6 137 rfl
abbrev mX14_term : xM := (yX14_term, prog_14_method_59_code, 5, some .int, [])
set_option maxRecDepth 20000 in
theorem cw_X14_term : xCW mX14_term ∈ lw_tbl := xm6 141 rfl
abbrev mX14_go : xM := (yX14_go, prog_14_method_61_code, 4, some .int, [])
set_option maxRecDepth 20000 in
theorem cw_X14_go : xCW mX14_go ∈ lw_tbl := xm6 145 rfl
abbrev mX14_loses : xM := (yX14_loses, prog_14_method_60_code, 7, some .boolean, [])
set_option maxRecDepth 20000 in
theorem cw_X14_loses : xCW mX14_loses ∈ lw_tbl := xm6 149 rfl
abbrev mX14_gone : xM := (yX14_gone, prog_14_method_62_code, 2, some .int, [])
set_option maxRecDepth 20000 in
theorem cw_X14_gone : xCW mX14_gone ∈ lw_tbl := xm6 153 rfl
abbrev mX14_derived : xM := (yX14_derived, prog_14_method_63_code, 3, some .int, [])
set_option maxRecDepth 20000 in
theorem cw_X14_derived : xCW mX14_derived ∈ lw_tbl := xm6 157 rfl
abbrev mX14_deepest : xM := (yX14_deepest, prog_14_method_64_code, 3, some .int, [])
set_option maxRecDepth 20000 in
theorem cw_X14_deepest : xCW mX14_deepest ∈ lw_tbl := xm6 161 rfl
abbrev mX14_turned : xM := (yX14_turned, prog_14_method_65_code, 5, some .int, [])
set_option maxRecDepth 20000 in
theorem cw_X14_turned : xCW mX14_turned ∈ lw_tbl := xm6 165 rfl
abbrev mX14_count : xM := (yX14_count, prog_14_method_66_code, 5, some .int, [])
set_option maxRecDepth 20000 in
theorem cw_X14_count : xCW mX14_count ∈ lw_tbl := xm6 169 rfl
abbrev mX14_trouble : xM := (yX14_trouble, prog_14_method_67_code, 1, some .int, [])
set_option maxRecDepth 20000 in
theorem cw_X14_trouble : xCW mX14_trouble ∈ lw_tbl := xm6 173 rfl
set_option maxRecDepth 20000 in
theorem oi_i : Cond.instanceMethod objectInit ∈ lw_tbl := xm1 30 rfl
set_option maxRecDepth 20000 in
theorem oi_c : Cond.code objectInit ⟨#[0xb1]⟩ 1 none ∈ lw_tbl := xm1 31 rfl
set_option maxRecDepth 20000 in
theorem mx_s : Cond.static Lib.Math.max.name ∈ lw_tbl := xm3 28 rfl
set_option maxRecDepth 20000 in
theorem mx_c : Cond.code Lib.Math.max.name Lib.Math.max.code 2 (some .int) ∈ lw_tbl := xm3 29 rfl
set_option maxRecDepth 20000 in
theorem li_L_15 : xLI RL 15 0 mX11_init := ⟨rfl, rfl, rfl, Or.inl (xm1 26 rfl), xm1 27 rfl, cw_X11_init, in_X11, ⟨by decide +kernel, by decide +kernel⟩, by decide +kernel⟩
set_option maxRecDepth 20000 in
theorem ml_X11_3 : Cond.methodLink RX11 3 objectInit ∈ lw_tbl := xm1 29 rfl
set_option maxRecDepth 20000 in
theorem li_X11_15 : xLI RX11 15 0 mX0_init := ⟨rfl, rfl, rfl, Or.inl (xm1 34 rfl), xm1 35 rfl, cw_X0_init, in_X0, ⟨by decide +kernel, by decide +kernel⟩, by decide +kernel⟩
set_option maxRecDepth 20000 in
theorem ml_X0_3 : Cond.methodLink RX0 3 objectInit ∈ lw_tbl := xm1 37 rfl
set_option maxRecDepth 20000 in
theorem ml_X6_3 : Cond.methodLink RX6 3 objectInit ∈ lw_tbl := xm1 43 rfl
set_option maxRecDepth 20000 in
theorem ml_X4_3 : Cond.methodLink RX4 3 objectInit ∈ lw_tbl := xm1 62 rfl
set_option maxRecDepth 20000 in
theorem li_X0_41 : xLI RX0 41 0 mX8_init := ⟨rfl, rfl, rfl, Or.inl (xm1 73 rfl), xm1 74 rfl, cw_X8_init, in_X8, ⟨by decide +kernel, by decide +kernel⟩, by decide +kernel⟩
set_option maxRecDepth 20000 in
theorem ml_X8_3 : Cond.methodLink RX8 3 objectInit ∈ lw_tbl := xm1 76 rfl
set_option maxRecDepth 20000 in
theorem ml_X9_3 : Cond.methodLink RX9 3 objectInit ∈ lw_tbl := xm1 82 rfl
set_option maxRecDepth 20000 in
theorem li_X11_22 : xLI RX11 22 1 mX7_init := ⟨rfl, rfl, rfl, Or.inl (xm1 211 rfl), xm1 212 rfl, cw_X7_init, in_X7, ⟨by decide +kernel, by decide +kernel⟩, by decide +kernel⟩
set_option maxRecDepth 20000 in
theorem ml_X7_3 : Cond.methodLink RX7 3 objectInit ∈ lw_tbl := xm1 214 rfl
set_option maxRecDepth 20000 in
theorem ml_X10_3 : Cond.methodLink RX10 3 objectInit ∈ lw_tbl := xm1 220 rfl
set_option maxRecDepth 20000 in
theorem li_X11_31 : xLI RX11 31 1 mX2_init := ⟨rfl, rfl, rfl, Or.inl (xm2 28 rfl), xm2 29 rfl, cw_X2_init, in_X2, ⟨by decide +kernel, by decide +kernel⟩, by decide +kernel⟩
set_option maxRecDepth 20000 in
theorem ml_X2_3 : Cond.methodLink RX2 3 objectInit ∈ lw_tbl := xm2 31 rfl
set_option maxRecDepth 20000 in
theorem li_X11_38 : xLI RX11 38 2 mX3_init := ⟨rfl, rfl, rfl, Or.inl (xm2 62 rfl), xm2 63 rfl, cw_X3_init, in_X3, ⟨by decide +kernel, by decide +kernel⟩, by decide +kernel⟩
set_option maxRecDepth 20000 in
theorem ml_X3_3 : Cond.methodLink RX3 3 objectInit ∈ lw_tbl := xm2 65 rfl
set_option maxRecDepth 20000 in
theorem li_X11_47 : xLI RX11 47 1 mX5_init := ⟨rfl, rfl, rfl, Or.inl (xm2 78 rfl), xm2 79 rfl, cw_X5_init, in_X5, ⟨by decide +kernel, by decide +kernel⟩, by decide +kernel⟩
set_option maxRecDepth 20000 in
theorem ml_X5_5 : Cond.methodLink RX5 5 objectInit ∈ lw_tbl := xm2 81 rfl
set_option maxRecDepth 20000 in
theorem li_X11_59 : xLI RX11 59 3 mX1_init := ⟨rfl, rfl, rfl, Or.inl (xm2 106 rfl), xm2 107 rfl, cw_X1_init, in_X1, ⟨by decide +kernel, by decide +kernel⟩, by decide +kernel⟩
set_option maxRecDepth 20000 in
theorem ml_X1_3 : Cond.methodLink RX1 3 objectInit ∈ lw_tbl := xm2 109 rfl
set_option maxRecDepth 20000 in
theorem lv_L_19 : xLV RL 19 11 5 mX11_feed := ⟨_, rfl, rfl, Or.inl (xm2 183 rfl), xm2 184 rfl, xm2 185 rfl, cw_X11_feed, in_X11, ⟨by decide +kernel, by decide +kernel⟩, by decide +kernel⟩
set_option maxRecDepth 20000 in
theorem lv_X11_73 : xLV RX11 73 11 1 mX11_putBytes := ⟨_, rfl, rfl, Or.inl (xm2 187 rfl), xm2 189 rfl, xmem0 0 rfl, cw_X11_putBytes, in_X11, ⟨by decide +kernel, by decide +kernel⟩, by decide +kernel⟩
set_option maxRecDepth 20000 in
theorem lv_L_24 : xLV RL 24 11 1 mX11_tell := ⟨_, rfl, rfl, Or.inl (xm2 191 rfl), xm2 192 rfl, xm2 193 rfl, cw_X11_tell, in_X11, ⟨by decide +kernel, by decide +kernel⟩, by decide +kernel⟩
set_option maxRecDepth 20000 in
theorem lv_X11_77 : xLV RX11 77 11 1 mX11_refuse := ⟨_, rfl, rfl, Or.inl (xm2 195 rfl), xm2 197 rfl, xmem0 1 rfl, cw_X11_refuse, in_X11, ⟨by decide +kernel, by decide +kernel⟩, by decide +kernel⟩
set_option maxRecDepth 20000 in
theorem lv_X11_81 : xLV RX11 81 7 2 mX7_read := ⟨_, rfl, rfl, Or.inl (xm2 199 rfl), xm2 200 rfl, xm2 201 rfl, cw_X7_read, in_X7, ⟨by decide +kernel, by decide +kernel⟩, by decide +kernel⟩
set_option maxRecDepth 20000 in
theorem lv_X7_44 : xLV RX7 44 10 2 mX10_read := ⟨_, rfl, rfl, Or.inl (xm2 203 rfl), xm2 204 rfl, xm2 205 rfl, cw_X10_read, in_X10, ⟨by decide +kernel, by decide +kernel⟩, by decide +kernel⟩
set_option maxRecDepth 20000 in
theorem lv_X10_26 : xLV RX10 26 10 3 mX10_put := ⟨_, rfl, rfl, Or.inl (xm2 207 rfl), xm2 209 rfl, xmem0 2 rfl, cw_X10_put, in_X10, ⟨by decide +kernel, by decide +kernel⟩, by decide +kernel⟩
set_option maxRecDepth 20000 in
theorem ls_X10_30 : xLS RX10 30 1 mX10_typeOf := ⟨rfl, xm2 211 rfl, xm2 212 rfl, cw_X10_typeOf, in_X10, ⟨by decide +kernel, by decide +kernel⟩, by decide +kernel⟩
set_option maxRecDepth 20000 in
theorem lv_X7_63 : xLV RX7 63 7 0 mX7_type := ⟨_, rfl, rfl, Or.inl (xm2 214 rfl), xm2 216 rfl, xmem0 3 rfl, cw_X7_type, in_X7, ⟨by decide +kernel, by decide +kernel⟩, by decide +kernel⟩
set_option maxRecDepth 20000 in
theorem lv_X7_71 : xLV RX7 71 7 1 mX7_readClause := ⟨_, rfl, rfl, Or.inl (xm2 218 rfl), xm2 220 rfl, xmem0 4 rfl, cw_X7_readClause, in_X7, ⟨by decide +kernel, by decide +kernel⟩, by decide +kernel⟩
set_option maxRecDepth 20000 in
theorem lv_X7_108 : xLV RX7 108 8 0 mX8_clear := ⟨_, rfl, rfl, Or.inl (xm2 222 rfl), xm2 223 rfl, xm2 224 rfl, cw_X8_clear, in_X8, ⟨by decide +kernel, by decide +kernel⟩, by decide +kernel⟩
set_option maxRecDepth 20000 in
theorem lv_X7_111 : xLV RX7 111 9 1 mX9_clear := ⟨_, rfl, rfl, Or.inl (xm2 226 rfl), xm2 227 rfl, xm2 228 rfl, cw_X9_clear, in_X9, ⟨by decide +kernel, by decide +kernel⟩, by decide +kernel⟩
set_option maxRecDepth 20000 in
theorem lv_X7_114 : xLV RX7 114 7 2 mX7_readAtom := ⟨_, rfl, rfl, Or.inl (xm2 230 rfl), xm2 232 rfl, xmem0 5 rfl, cw_X7_readAtom, in_X7, ⟨by decide +kernel, by decide +kernel⟩, by decide +kernel⟩
set_option maxRecDepth 20000 in
theorem lv_X7_122 : xLV RX7 122 7 0 mX7_start := ⟨_, rfl, rfl, Or.inl (xm2 235 rfl), xm2 237 rfl, xmem0 6 rfl, cw_X7_start, in_X7, ⟨by decide +kernel, by decide +kernel⟩, by decide +kernel⟩
set_option maxRecDepth 20000 in
theorem lv_X7_104 : xLV RX7 104 7 2 mX7_fail := ⟨_, rfl, rfl, Or.inl (xm2 239 rfl), xm3 1 rfl, xmem0 7 rfl, cw_X7_fail, in_X7, ⟨by decide +kernel, by decide +kernel⟩, by decide +kernel⟩
set_option maxRecDepth 20000 in
theorem lv_X7_177 : xLV RX7 177 6 1 mX6_findOrAdd := ⟨_, rfl, rfl, Or.inl (xm3 3 rfl), xm3 4 rfl, xm3 5 rfl, cw_X6_findOrAdd, in_X6, ⟨by decide +kernel, by decide +kernel⟩, by decide +kernel⟩
set_option maxRecDepth 20000 in
theorem lv_X7_173 : xLV RX7 173 7 3 mX7_readArg := ⟨_, rfl, rfl, Or.inl (xm3 7 rfl), xm3 9 rfl, xmem0 8 rfl, cw_X7_readArg, in_X7, ⟨by decide +kernel, by decide +kernel⟩, by decide +kernel⟩
set_option maxRecDepth 20000 in
theorem lv_X7_188 : xLV RX7 188 8 1 mX8_findOrAddSign := ⟨_, rfl, rfl, Or.inl (xm3 11 rfl), xm3 12 rfl, xm3 13 rfl, cw_X8_findOrAddSign, in_X8, ⟨by decide +kernel, by decide +kernel⟩, by decide +kernel⟩
set_option maxRecDepth 20000 in
theorem lv_X7_192 : xLV RX7 192 9 3 mX9_setArg := ⟨_, rfl, rfl, Or.inl (xm3 15 rfl), xm3 16 rfl, xm3 17 rfl, cw_X9_setArg, in_X9, ⟨by decide +kernel, by decide +kernel⟩, by decide +kernel⟩
set_option maxRecDepth 20000 in
theorem lv_X7_181 : xLV RX7 181 7 2 mX7_hasItsPlaces := ⟨_, rfl, rfl, Or.inl (xm3 19 rfl), xm3 21 rfl, xmem0 9 rfl, cw_X7_hasItsPlaces, in_X7, ⟨by decide +kernel, by decide +kernel⟩, by decide +kernel⟩
set_option maxRecDepth 20000 in
theorem lv_X7_118 : xLV RX7 118 7 1 mX7_endFact := ⟨_, rfl, rfl, Or.inl (xm3 23 rfl), xm3 25 rfl, xmem0 10 rfl, cw_X7_endFact, in_X7, ⟨by decide +kernel, by decide +kernel⟩, by decide +kernel⟩
set_option maxRecDepth 20000 in
theorem ml_X7_148 : Cond.methodLink RX7 148 Lib.Math.max.name ∈ lw_tbl := xm3 27 rfl
set_option maxRecDepth 20000 in
theorem lv_X7_130 : xLV RX7 130 7 2 mX7_readTerm := ⟨_, rfl, rfl, Or.inl (xm3 30 rfl), xm3 32 rfl, xmem0 11 rfl, cw_X7_readTerm, in_X7, ⟨by decide +kernel, by decide +kernel⟩, by decide +kernel⟩
set_option maxRecDepth 20000 in
theorem lv_X7_161 : xLV RX7 161 7 0 mX7_nextType := ⟨_, rfl, rfl, Or.inl (xm3 34 rfl), xm3 36 rfl, xmem0 12 rfl, cw_X7_nextType, in_X7, ⟨by decide +kernel, by decide +kernel⟩, by decide +kernel⟩
set_option maxRecDepth 20000 in
theorem lv_X7_164 : xLV RX7 164 7 2 mX7_readUnlike := ⟨_, rfl, rfl, Or.inl (xm3 38 rfl), xm3 40 rfl, xmem0 13 rfl, cw_X7_readUnlike, in_X7, ⟨by decide +kernel, by decide +kernel⟩, by decide +kernel⟩
set_option maxRecDepth 20000 in
theorem lv_X7_133 : xLV RX7 133 7 1 mX7_endRule := ⟨_, rfl, rfl, Or.inl (xm3 42 rfl), xm3 44 rfl, xmem0 14 rfl, cw_X7_endRule, in_X7, ⟨by decide +kernel, by decide +kernel⟩, by decide +kernel⟩
set_option maxRecDepth 20000 in
theorem lv_X7_157 : xLV RX7 157 8 1 mX8_loosePlace := ⟨_, rfl, rfl, Or.inl (xm3 46 rfl), xm3 47 rfl, xm3 48 rfl, cw_X8_loosePlace, in_X8, ⟨by decide +kernel, by decide +kernel⟩, by decide +kernel⟩
set_option maxRecDepth 20000 in
theorem lv_X8_36 : xLV RX8 36 8 1 mX8_isLoose := ⟨_, rfl, rfl, Or.inl (xm3 50 rfl), xm3 52 rfl, xmem0 15 rfl, cw_X8_isLoose, in_X8, ⟨by decide +kernel, by decide +kernel⟩, by decide +kernel⟩
set_option maxRecDepth 20000 in
theorem lv_X7_75 : xLV RX7 75 7 1 mX7_refusesNoneOfItself := ⟨_, rfl, rfl, Or.inl (xm3 54 rfl), xm3 56 rfl, xmem0 16 rfl, cw_X7_refusesNoneOfItself, in_X7, ⟨by decide +kernel, by decide +kernel⟩, by decide +kernel⟩
set_option maxRecDepth 20000 in
theorem lv_X7_87 : xLV RX7 87 4 2 mX4_settle := ⟨_, rfl, rfl, Or.inl (xm3 58 rfl), xm3 59 rfl, xm3 60 rfl, cw_X4_settle, in_X4, ⟨by decide +kernel, by decide +kernel⟩, by decide +kernel⟩
set_option maxRecDepth 20000 in
theorem ls_X4_15 : xLS RX4 15 2 mJ7_fill_53178 := ⟨rfl, xm3 62 rfl, xm3 63 rfl, cw_J7_fill_53178, in_J7, ⟨by decide +kernel, by decide +kernel⟩, by decide +kernel⟩
set_option maxRecDepth 20000 in
theorem lv_X4_21 : xLV RX4 21 4 1 mX4_leastFor := ⟨_, rfl, rfl, Or.inl (xm3 65 rfl), xm3 67 rfl, xmem0 17 rfl, cw_X4_leastFor, in_X4, ⟨by decide +kernel, by decide +kernel⟩, by decide +kernel⟩
set_option maxRecDepth 20000 in
theorem ml_X4_47 : Cond.methodLink RX4 47 Lib.Math.max.name ∈ lw_tbl := xm3 69 rfl
set_option maxRecDepth 20000 in
theorem lv_X7_79 : xLV RX7 79 0 2 mX0_setFact := ⟨_, rfl, rfl, Or.inl (xm3 70 rfl), xm3 71 rfl, xm3 72 rfl, cw_X0_setFact, in_X0, ⟨by decide +kernel, by decide +kernel⟩, by decide +kernel⟩
set_option maxRecDepth 20000 in
theorem lv_X0_53 : xLV RX0 53 0 1 mX0_isFact := ⟨_, rfl, rfl, Or.inl (xm3 74 rfl), xm3 75 rfl, xm3 76 rfl, cw_X0_isFact, in_X0, ⟨by decide +kernel, by decide +kernel⟩, by decide +kernel⟩
set_option maxRecDepth 20000 in
theorem lv_L_29 : xLV RL 29 11 0 mX11_fault := ⟨_, rfl, rfl, Or.inl (xm3 78 rfl), xm3 79 rfl, xm3 80 rfl, cw_X11_fault, in_X11, ⟨by decide +kernel, by decide +kernel⟩, by decide +kernel⟩
set_option maxRecDepth 20000 in
theorem lv_L_34 : xLV RL 34 11 0 mX11_where := ⟨_, rfl, rfl, Or.inl (xm3 82 rfl), xm3 83 rfl, xm3 84 rfl, cw_X11_where, in_X11, ⟨by decide +kernel, by decide +kernel⟩, by decide +kernel⟩
set_option maxRecDepth 20000 in
theorem lv_L_38 : xLV RL 38 11 3 mX11_atom := ⟨_, rfl, rfl, Or.inl (xm3 86 rfl), xm3 87 rfl, xm3 88 rfl, cw_X11_atom, in_X11, ⟨by decide +kernel, by decide +kernel⟩, by decide +kernel⟩
set_option maxRecDepth 20000 in
theorem lv_X11_105 : xLV RX11 105 6 1 mX6_has := ⟨_, rfl, rfl, Or.inl (xm3 90 rfl), xm3 91 rfl, xm3 92 rfl, cw_X6_has, in_X6, ⟨by decide +kernel, by decide +kernel⟩, by decide +kernel⟩
set_option maxRecDepth 20000 in
theorem lv_L_52 : xLV RL 52 11 1 mX11_places := ⟨_, rfl, rfl, Or.inl (xm3 94 rfl), xm3 95 rfl, xm3 96 rfl, cw_X11_places, in_X11, ⟨by decide +kernel, by decide +kernel⟩, by decide +kernel⟩
set_option maxRecDepth 20000 in
theorem lv_L_56 : xLV RL 56 11 1 mX11_layer := ⟨_, rfl, rfl, Or.inl (xm3 98 rfl), xm3 99 rfl, xm3 100 rfl, cw_X11_layer, in_X11, ⟨by decide +kernel, by decide +kernel⟩, by decide +kernel⟩
set_option maxRecDepth 20000 in
theorem lv_L_60 : xLV RL 60 11 2 mX11_fact := ⟨_, rfl, rfl, Or.inl (xm3 102 rfl), xm3 103 rfl, xm3 104 rfl, cw_X11_fact, in_X11, ⟨by decide +kernel, by decide +kernel⟩, by decide +kernel⟩
set_option maxRecDepth 20000 in
theorem lv_X11_140 : xLV RX11 140 0 1 mX0_hasAtom := ⟨_, rfl, rfl, Or.inl (xm3 106 rfl), xm3 107 rfl, xm3 108 rfl, cw_X0_hasAtom, in_X0, ⟨by decide +kernel, by decide +kernel⟩, by decide +kernel⟩
set_option maxRecDepth 20000 in
theorem lv_X0_46 : xLV RX0 46 6 1 mX6_has := ⟨_, rfl, rfl, Or.inl (xm3 110 rfl), xm3 91 rfl, xm3 92 rfl, cw_X6_has, in_X6, ⟨by decide +kernel, by decide +kernel⟩, by decide +kernel⟩
set_option maxRecDepth 20000 in
theorem lv_X11_143 : xLV RX11 143 0 2 mX0_setFact := ⟨_, rfl, rfl, Or.inl (xm3 111 rfl), xm3 71 rfl, xm3 72 rfl, cw_X0_setFact, in_X0, ⟨by decide +kernel, by decide +kernel⟩, by decide +kernel⟩
set_option maxRecDepth 20000 in
theorem lv_L_65 : xLV RL 65 11 1 mX11_drop := ⟨_, rfl, rfl, Or.inl (xm3 112 rfl), xm3 113 rfl, xm3 114 rfl, cw_X11_drop, in_X11, ⟨by decide +kernel, by decide +kernel⟩, by decide +kernel⟩
set_option maxRecDepth 20000 in
theorem lv_X11_147 : xLV RX11 147 0 1 mX0_hasRule := ⟨_, rfl, rfl, Or.inl (xm3 116 rfl), xm3 117 rfl, xm3 118 rfl, cw_X0_hasRule, in_X0, ⟨by decide +kernel, by decide +kernel⟩, by decide +kernel⟩
set_option maxRecDepth 20000 in
theorem lv_X11_150 : xLV RX11 150 0 1 mX0_removeRule := ⟨_, rfl, rfl, Or.inl (xm3 120 rfl), xm3 121 rfl, xm3 122 rfl, cw_X0_removeRule, in_X0, ⟨by decide +kernel, by decide +kernel⟩, by decide +kernel⟩
set_option maxRecDepth 20000 in
theorem lv_X0_59 : xLV RX0 59 4 2 mX4_settle := ⟨_, rfl, rfl, Or.inl (xm3 124 rfl), xm3 59 rfl, xm3 60 rfl, cw_X4_settle, in_X4, ⟨by decide +kernel, by decide +kernel⟩, by decide +kernel⟩
set_option maxRecDepth 20000 in
theorem lv_L_70 : xLV RL 70 11 1 mX11_follows := ⟨_, rfl, rfl, Or.inl (xm3 125 rfl), xm3 126 rfl, xm3 127 rfl, cw_X11_follows, in_X11, ⟨by decide +kernel, by decide +kernel⟩, by decide +kernel⟩
set_option maxRecDepth 20000 in
theorem lv_X11_153 : xLV RX11 153 0 1 mX0_isFact := ⟨_, rfl, rfl, Or.inl (xm3 129 rfl), xm3 75 rfl, xm3 76 rfl, cw_X0_isFact, in_X0, ⟨by decide +kernel, by decide +kernel⟩, by decide +kernel⟩
set_option maxRecDepth 20000 in
theorem lv_X11_156 : xLV RX11 156 11 0 mX11_settled := ⟨_, rfl, rfl, Or.inl (xm3 130 rfl), xm3 132 rfl, xmem0 18 rfl, cw_X11_settled, in_X11, ⟨by decide +kernel, by decide +kernel⟩, by decide +kernel⟩
set_option maxRecDepth 20000 in
theorem lv_X11_231 : xLV RX11 231 5 1 mX5_start := ⟨_, rfl, rfl, Or.inl (xm3 134 rfl), xm3 135 rfl, xm3 136 rfl, cw_X5_start, in_X5, ⟨by decide +kernel, by decide +kernel⟩, by decide +kernel⟩
set_option maxRecDepth 20000 in
theorem ml_X5_27 : Cond.methodLink RX5 27 arraycopyName ∈ lw_tbl := xm3 138 rfl
set_option maxRecDepth 20000 in
theorem ls_X5_33 : xLS RX5 33 2 mJ7_fill_53178 := ⟨rfl, xm3 141 rfl, xm3 63 rfl, cw_J7_fill_53178, in_J7, ⟨by decide +kernel, by decide +kernel⟩, by decide +kernel⟩
set_option maxRecDepth 20000 in
theorem lv_X5_44 : xLV RX5 44 5 1 mX5_setNoSteps := ⟨_, rfl, rfl, Or.inl (xm3 143 rfl), xm3 145 rfl, xmem0 19 rfl, cw_X5_setNoSteps, in_X5, ⟨by decide +kernel, by decide +kernel⟩, by decide +kernel⟩
set_option maxRecDepth 20000 in
theorem lv_X11_235 : xLV RX11 235 3 4 mX3_settle := ⟨_, rfl, rfl, Or.inl (xm3 147 rfl), xm3 148 rfl, xm3 149 rfl, cw_X3_settle, in_X3, ⟨by decide +kernel, by decide +kernel⟩, by decide +kernel⟩
set_option maxRecDepth 20000 in
theorem ls_X3_23 : xLS RX3 23 2 mJ7_fill_53178 := ⟨rfl, xm3 151 rfl, xm3 63 rfl, cw_J7_fill_53178, in_J7, ⟨by decide +kernel, by decide +kernel⟩, by decide +kernel⟩
set_option maxRecDepth 20000 in
theorem lv_X3_29 : xLV RX3 29 0 0 mX0_layerCount := ⟨_, rfl, rfl, Or.inl (xm3 152 rfl), xm3 153 rfl, xm3 154 rfl, cw_X0_layerCount, in_X0, ⟨by decide +kernel, by decide +kernel⟩, by decide +kernel⟩
set_option maxRecDepth 20000 in
theorem ml_X0_66 : Cond.methodLink RX0 66 Lib.Math.max.name ∈ lw_tbl := xm3 156 rfl
set_option maxRecDepth 20000 in
theorem lv_X3_39 : xLV RX3 39 5 1 mX5_has := ⟨_, rfl, rfl, Or.inl (xm3 157 rfl), xm3 158 rfl, xm3 159 rfl, cw_X5_has, in_X5, ⟨by decide +kernel, by decide +kernel⟩, by decide +kernel⟩
set_option maxRecDepth 20000 in
theorem lv_X3_69 : xLV RX3 69 3 2 mX3_isDue := ⟨_, rfl, rfl, Or.inl (xm3 161 rfl), xm3 163 rfl, xmem0 20 rfl, cw_X3_isDue, in_X3, ⟨by decide +kernel, by decide +kernel⟩, by decide +kernel⟩
set_option maxRecDepth 20000 in
theorem lv_X3_78 : xLV RX3 78 2 3 mX2_begin := ⟨_, rfl, rfl, Or.inl (xm3 165 rfl), xm3 166 rfl, xm3 167 rfl, cw_X2_begin, in_X2, ⟨by decide +kernel, by decide +kernel⟩, by decide +kernel⟩
set_option maxRecDepth 20000 in
theorem ls_X2_76 : xLS RX2 76 2 mJ7_fill_53178 := ⟨rfl, xm3 169 rfl, xm3 63 rfl, cw_J7_fill_53178, in_J7, ⟨by decide +kernel, by decide +kernel⟩, by decide +kernel⟩
set_option maxRecDepth 20000 in
theorem ml_X2_92 : Cond.methodLink RX2 92 Lib.Math.max.name ∈ lw_tbl := xm3 174 rfl
set_option maxRecDepth 20000 in
theorem lv_X2_101 : xLV RX2 101 2 1 mX2_arrive := ⟨_, rfl, rfl, Or.inl (xm3 175 rfl), xm3 177 rfl, xmem0 22 rfl, cw_X2_arrive, in_X2, ⟨by decide +kernel, by decide +kernel⟩, by decide +kernel⟩
set_option maxRecDepth 20000 in
theorem ls_X2_61 : xLS RX2 61 2 mX2_numberOf := ⟨rfl, xm3 179 rfl, xm3 180 rfl, cw_X2_numberOf, in_X2, ⟨by decide +kernel, by decide +kernel⟩, by decide +kernel⟩
set_option maxRecDepth 20000 in
theorem ls_X2_113 : xLS RX2 113 2 mX2_thingOf := ⟨rfl, xm3 182 rfl, xm3 183 rfl, cw_X2_thingOf, in_X2, ⟨by decide +kernel, by decide +kernel⟩, by decide +kernel⟩
set_option maxRecDepth 20000 in
theorem lv_X2_140 : xLV RX2 140 5 2 mX5_take := ⟨_, rfl, rfl, Or.inl (xm3 185 rfl), xm3 186 rfl, xm3 187 rfl, cw_X5_take, in_X5, ⟨by decide +kernel, by decide +kernel⟩, by decide +kernel⟩
set_option maxRecDepth 20000 in
theorem lv_X5_48 : xLV RX5 48 5 1 mX5_has := ⟨_, rfl, rfl, Or.inl (xm3 189 rfl), xm3 158 rfl, xm3 159 rfl, cw_X5_has, in_X5, ⟨by decide +kernel, by decide +kernel⟩, by decide +kernel⟩
set_option maxRecDepth 20000 in
theorem lv_X5_52 : xLV RX5 52 5 1 mX5_turn := ⟨_, rfl, rfl, Or.inl (xm3 190 rfl), xm3 191 rfl, xm3 192 rfl, cw_X5_turn, in_X5, ⟨by decide +kernel, by decide +kernel⟩, by decide +kernel⟩
set_option maxRecDepth 20000 in
theorem ml_X2_143 : Cond.methodLink RX2 143 arraycopyName ∈ lw_tbl := xm3 194 rfl
set_option maxRecDepth 20000 in
theorem lv_X2_109 : xLV RX2 109 2 1 mX2_freeSign := ⟨_, rfl, rfl, Or.inl (xm3 195 rfl), xm3 197 rfl, xmem0 23 rfl, cw_X2_freeSign, in_X2, ⟨by decide +kernel, by decide +kernel⟩, by decide +kernel⟩
set_option maxRecDepth 20000 in
theorem lv_X2_126 : xLV RX2 126 2 2 mX2_secondsFor := ⟨_, rfl, rfl, Or.inl (xm3 199 rfl), xm3 201 rfl, xmem0 24 rfl, cw_X2_secondsFor, in_X2, ⟨by decide +kernel, by decide +kernel⟩, by decide +kernel⟩
set_option maxRecDepth 20000 in
theorem lv_X2_130 : xLV RX2 130 2 4 mX2_walkSecond := ⟨_, rfl, rfl, Or.inl (xm3 203 rfl), xm3 205 rfl, xmem0 25 rfl, cw_X2_walkSecond, in_X2, ⟨by decide +kernel, by decide +kernel⟩, by decide +kernel⟩
set_option maxRecDepth 20000 in
theorem lv_X2_26 : xLV RX2 26 2 2 mX2_walk := ⟨_, rfl, rfl, Or.inl (xm3 207 rfl), xm3 172 rfl, xmem0 21 rfl, cw_X2_walk, in_X2, ⟨by decide +kernel, by decide +kernel⟩, by decide +kernel⟩
set_option maxRecDepth 20000 in
theorem lv_X11_160 : xLV RX11 160 5 1 mX5_has := ⟨_, rfl, rfl, Or.inl (xm3 208 rfl), xm3 158 rfl, xm3 159 rfl, cw_X5_has, in_X5, ⟨by decide +kernel, by decide +kernel⟩, by decide +kernel⟩
set_option maxRecDepth 20000 in
theorem lv_L_74 : xLV RL 74 11 1 mX11_many := ⟨_, rfl, rfl, Or.inl (xm3 209 rfl), xm3 210 rfl, xm3 211 rfl, cw_X11_many, in_X11, ⟨by decide +kernel, by decide +kernel⟩, by decide +kernel⟩
set_option maxRecDepth 20000 in
theorem ls_X11_164 : xLS RX11 164 1 mJ6_bitCount_0f7a4 := ⟨rfl, xm3 213 rfl, xm3 214 rfl, cw_J6_bitCount_0f7a4, in_J6, ⟨by decide +kernel, by decide +kernel⟩, by decide +kernel⟩
set_option maxRecDepth 20000 in
theorem lv_L_78 : xLV RL 78 11 2 mX11_one := ⟨_, rfl, rfl, Or.inl (xm3 219 rfl), xm3 220 rfl, xm3 221 rfl, cw_X11_one, in_X11, ⟨by decide +kernel, by decide +kernel⟩, by decide +kernel⟩
set_option maxRecDepth 20000 in
theorem lv_L_83 : xLV RL 83 11 1 mX11_steps := ⟨_, rfl, rfl, Or.inl (xm3 223 rfl), xm3 224 rfl, xm3 225 rfl, cw_X11_steps, in_X11, ⟨by decide +kernel, by decide +kernel⟩, by decide +kernel⟩
set_option maxRecDepth 20000 in
theorem lv_L_87 : xLV RL 87 11 1 mX11_why := ⟨_, rfl, rfl, Or.inl (xm3 227 rfl), xm3 228 rfl, xm3 229 rfl, cw_X11_why, in_X11, ⟨by decide +kernel, by decide +kernel⟩, by decide +kernel⟩
set_option maxRecDepth 20000 in
theorem lv_X11_179 : xLV RX11 179 2 3 mX2_seekLeast := ⟨_, rfl, rfl, Or.inl (xm3 231 rfl), xm3 232 rfl, xm3 233 rfl, cw_X2_seekLeast, in_X2, ⟨by decide +kernel, by decide +kernel⟩, by decide +kernel⟩
set_option maxRecDepth 20000 in
theorem lv_X2_22 : xLV RX2 22 2 3 mX2_begin := ⟨_, rfl, rfl, Or.inl (xm3 235 rfl), xm3 166 rfl, xm3 167 rfl, cw_X2_begin, in_X2, ⟨by decide +kernel, by decide +kernel⟩, by decide +kernel⟩
set_option maxRecDepth 20000 in
theorem lv_X2_34 : xLV RX2 34 2 1 mX2_bindHead := ⟨_, rfl, rfl, Or.inl (xm3 236 rfl), xm3 238 rfl, xmem0 26 rfl, cw_X2_bindHead, in_X2, ⟨by decide +kernel, by decide +kernel⟩, by decide +kernel⟩
set_option maxRecDepth 20000 in
theorem lv_X2_85 : xLV RX2 85 2 2 mX2_bind := ⟨_, rfl, rfl, Or.inl (xm4 0 rfl), xm4 2 rfl, xmem0 27 rfl, cw_X2_bind, in_X2, ⟨by decide +kernel, by decide +kernel⟩, by decide +kernel⟩
set_option maxRecDepth 20000 in
theorem lv_X11_183 : xLV RX11 183 11 1 mX11_keepReasons := ⟨_, rfl, rfl, Or.inl (xm4 4 rfl), xm4 6 rfl, xmem0 28 rfl, cw_X11_keepReasons, in_X11, ⟨by decide +kernel, by decide +kernel⟩, by decide +kernel⟩
set_option maxRecDepth 20000 in
theorem lv_X11_202 : xLV RX11 202 2 1 mX2_leastNumberOf := ⟨_, rfl, rfl, Or.inl (xm4 8 rfl), xm4 9 rfl, xm4 10 rfl, cw_X2_leastNumberOf, in_X2, ⟨by decide +kernel, by decide +kernel⟩, by decide +kernel⟩
set_option maxRecDepth 20000 in
theorem lv_L_91 : xLV RL 91 11 1 mX11_because := ⟨_, rfl, rfl, Or.inl (xm4 12 rfl), xm4 13 rfl, xm4 14 rfl, cw_X11_because, in_X11, ⟨by decide +kernel, by decide +kernel⟩, by decide +kernel⟩
set_option maxRecDepth 20000 in
theorem lv_L_95 : xLV RL 95 11 2 mX11_comes := ⟨_, rfl, rfl, Or.inl (xm4 16 rfl), xm4 17 rfl, xm4 18 rfl, cw_X11_comes, in_X11, ⟨by decide +kernel, by decide +kernel⟩, by decide +kernel⟩
set_option maxRecDepth 20000 in
theorem lv_X11_213 : xLV RX11 213 2 3 mX2_reachFor := ⟨_, rfl, rfl, Or.inl (xm4 20 rfl), xm4 21 rfl, xm4 22 rfl, cw_X2_reachFor, in_X2, ⟨by decide +kernel, by decide +kernel⟩, by decide +kernel⟩
set_option maxRecDepth 20000 in
theorem lv_L_99 : xLV RL 99 11 2 mX11_rule := ⟨_, rfl, rfl, Or.inl (xm4 24 rfl), xm4 25 rfl, xm4 26 rfl, cw_X11_rule, in_X11, ⟨by decide +kernel, by decide +kernel⟩, by decide +kernel⟩
set_option maxRecDepth 20000 in
theorem lv_X11_220 : xLV RX11 220 2 2 mX2_reach := ⟨_, rfl, rfl, Or.inl (xm4 28 rfl), xm4 29 rfl, xm4 30 rfl, cw_X2_reach, in_X2, ⟨by decide +kernel, by decide +kernel⟩, by decide +kernel⟩
set_option maxRecDepth 20000 in
theorem lv_X11_224 : xLV RX11 224 11 2 mX11_isSpare := ⟨_, rfl, rfl, Or.inl (xm4 32 rfl), xm4 34 rfl, xmem0 29 rfl, cw_X11_isSpare, in_X11, ⟨by decide +kernel, by decide +kernel⟩, by decide +kernel⟩
set_option maxRecDepth 20000 in
theorem lv_X11_239 : xLV RX11 239 5 1 mX5_countBeyond := ⟨_, rfl, rfl, Or.inl (xm4 36 rfl), xm4 37 rfl, xm4 38 rfl, cw_X5_countBeyond, in_X5, ⟨by decide +kernel, by decide +kernel⟩, by decide +kernel⟩
set_option maxRecDepth 20000 in
theorem ls_X5_55 : xLS RX5 55 1 mJ6_bitCount_0f7a4 := ⟨rfl, xm4 40 rfl, xm3 214 rfl, cw_J6_bitCount_0f7a4, in_J6, ⟨by decide +kernel, by decide +kernel⟩, by decide +kernel⟩
set_option maxRecDepth 20000 in
theorem lv_L_103 : xLV RL 103 11 3 mX11_term := ⟨_, rfl, rfl, Or.inl (xm4 41 rfl), xm4 42 rfl, xm4 43 rfl, cw_X11_term, in_X11, ⟨by decide +kernel, by decide +kernel⟩, by decide +kernel⟩
set_option maxRecDepth 20000 in
theorem lv_L_107 : xLV RL 107 11 1 mX11_go := ⟨_, rfl, rfl, Or.inl (xm4 45 rfl), xm4 46 rfl, xm4 47 rfl, cw_X11_go, in_X11, ⟨by decide +kernel, by decide +kernel⟩, by decide +kernel⟩
set_option maxRecDepth 20000 in
theorem lv_X11_252 : xLV RX11 252 1 1 mX1_aimAt := ⟨_, rfl, rfl, Or.inl (xm4 49 rfl), xm4 50 rfl, xm4 51 rfl, cw_X1_aimAt, in_X1, ⟨by decide +kernel, by decide +kernel⟩, by decide +kernel⟩
set_option maxRecDepth 20000 in
theorem lv_X1_37 : xLV RX1 37 0 1 mX0_kindsBehind := ⟨_, rfl, rfl, Or.inl (xm4 53 rfl), xm4 54 rfl, xm4 55 rfl, cw_X0_kindsBehind, in_X0, ⟨by decide +kernel, by decide +kernel⟩, by decide +kernel⟩
set_option maxRecDepth 20000 in
theorem ls_X0_81 : xLS RX0 81 1 mX0_kindsIn := ⟨rfl, xm4 57 rfl, xm4 58 rfl, cw_X0_kindsIn, in_X0, ⟨by decide +kernel, by decide +kernel⟩, by decide +kernel⟩
set_option maxRecDepth 20000 in
theorem lv_X1_49 : xLV RX1 49 0 1 mX0_isFact := ⟨_, rfl, rfl, Or.inl (xm4 60 rfl), xm3 75 rfl, xm3 76 rfl, cw_X0_isFact, in_X0, ⟨by decide +kernel, by decide +kernel⟩, by decide +kernel⟩
set_option maxRecDepth 20000 in
theorem lv_X11_255 : xLV RX11 255 1 1 mX1_seek := ⟨_, rfl, rfl, Or.inl (xm4 61 rfl), xm4 62 rfl, xm4 63 rfl, cw_X1_seek, in_X1, ⟨by decide +kernel, by decide +kernel⟩, by decide +kernel⟩
set_option maxRecDepth 20000 in
theorem lv_X1_56 : xLV RX1 56 5 1 mX5_start := ⟨_, rfl, rfl, Or.inl (xm4 65 rfl), xm3 135 rfl, xm3 136 rfl, cw_X5_start, in_X5, ⟨by decide +kernel, by decide +kernel⟩, by decide +kernel⟩
set_option maxRecDepth 20000 in
theorem lv_X1_62 : xLV RX1 62 5 1 mX5_turn := ⟨_, rfl, rfl, Or.inl (xm4 66 rfl), xm3 191 rfl, xm3 192 rfl, cw_X5_turn, in_X5, ⟨by decide +kernel, by decide +kernel⟩, by decide +kernel⟩
set_option maxRecDepth 20000 in
theorem lv_X1_66 : xLV RX1 66 3 4 mX3_settle := ⟨_, rfl, rfl, Or.inl (xm4 67 rfl), xm3 148 rfl, xm3 149 rfl, cw_X3_settle, in_X3, ⟨by decide +kernel, by decide +kernel⟩, by decide +kernel⟩
set_option maxRecDepth 20000 in
theorem lv_X1_72 : xLV RX1 72 5 1 mX5_has := ⟨_, rfl, rfl, Or.inl (xm4 68 rfl), xm3 158 rfl, xm3 159 rfl, cw_X5_has, in_X5, ⟨by decide +kernel, by decide +kernel⟩, by decide +kernel⟩
set_option maxRecDepth 20000 in
theorem lv_X1_75 : xLV RX1 75 1 1 mX1_keepPicks := ⟨_, rfl, rfl, Or.inl (xm4 69 rfl), xm4 71 rfl, xmem0 30 rfl, cw_X1_keepPicks, in_X1, ⟨by decide +kernel, by decide +kernel⟩, by decide +kernel⟩
set_option maxRecDepth 20000 in
theorem lv_X1_78 : xLV RX1 78 1 1 mX1_nextPicks := ⟨_, rfl, rfl, Or.inl (xm4 73 rfl), xm4 75 rfl, xmem0 31 rfl, cw_X1_nextPicks, in_X1, ⟨by decide +kernel, by decide +kernel⟩, by decide +kernel⟩
set_option maxRecDepth 20000 in
theorem lv_L_111 : xLV RL 111 11 1 mX11_gone := ⟨_, rfl, rfl, Or.inl (xm4 77 rfl), xm4 78 rfl, xm4 79 rfl, cw_X11_gone, in_X11, ⟨by decide +kernel, by decide +kernel⟩, by decide +kernel⟩
set_option maxRecDepth 20000 in
theorem lv_L_115 : xLV RL 115 11 0 mX11_derived := ⟨_, rfl, rfl, Or.inl (xm4 81 rfl), xm4 82 rfl, xm4 83 rfl, cw_X11_derived, in_X11, ⟨by decide +kernel, by decide +kernel⟩, by decide +kernel⟩
set_option maxRecDepth 20000 in
theorem lv_L_119 : xLV RL 119 11 0 mX11_deepest := ⟨_, rfl, rfl, Or.inl (xm4 85 rfl), xm4 86 rfl, xm4 87 rfl, cw_X11_deepest, in_X11, ⟨by decide +kernel, by decide +kernel⟩, by decide +kernel⟩
set_option maxRecDepth 20000 in
theorem ml_X11_264 : Cond.methodLink RX11 264 Lib.Math.max.name ∈ lw_tbl := xm4 89 rfl
set_option maxRecDepth 20000 in
theorem lv_L_123 : xLV RL 123 11 2 mX11_turned := ⟨_, rfl, rfl, Or.inl (xm4 90 rfl), xm4 91 rfl, xm4 92 rfl, cw_X11_turned, in_X11, ⟨by decide +kernel, by decide +kernel⟩, by decide +kernel⟩
set_option maxRecDepth 20000 in
theorem lv_X11_269 : xLV RX11 269 5 1 mX5_turn := ⟨_, rfl, rfl, Or.inl (xm4 94 rfl), xm3 191 rfl, xm3 192 rfl, cw_X5_turn, in_X5, ⟨by decide +kernel, by decide +kernel⟩, by decide +kernel⟩
set_option maxRecDepth 20000 in
theorem lv_L_127 : xLV RL 127 11 1 mX11_count := ⟨_, rfl, rfl, Or.inl (xm4 95 rfl), xm4 96 rfl, xm4 97 rfl, cw_X11_count, in_X11, ⟨by decide +kernel, by decide +kernel⟩, by decide +kernel⟩
set_option maxRecDepth 20000 in
theorem lv_X11_272 : xLV RX11 272 0 0 mX0_layerCount := ⟨_, rfl, rfl, Or.inl (xm4 99 rfl), xm3 153 rfl, xm3 154 rfl, cw_X0_layerCount, in_X0, ⟨by decide +kernel, by decide +kernel⟩, by decide +kernel⟩
set_option maxRecDepth 20000 in
theorem lv_L_131 : xLV RL 131 11 0 mX11_trouble := ⟨_, rfl, rfl, Or.inl (xm4 100 rfl), xm4 101 rfl, xm4 102 rfl, cw_X11_trouble, in_X11, ⟨by decide +kernel, by decide +kernel⟩, by decide +kernel⟩
set_option maxRecDepth 20000 in
theorem lv_L_7 : xLV RL 7 11 3 mX11_name := ⟨_, rfl, rfl, Or.inl (xm4 108 rfl), xm4 109 rfl, xm4 110 rfl, cw_X11_name, in_X11, ⟨by decide +kernel, by decide +kernel⟩, by decide +kernel⟩
set_option maxRecDepth 20000 in
theorem lv_X11_120 : xLV RX11 120 6 2 mX6_letter := ⟨_, rfl, rfl, Or.inl (xm4 112 rfl), xm4 113 rfl, xm4 114 rfl, cw_X6_letter, in_X6, ⟨by decide +kernel, by decide +kernel⟩, by decide +kernel⟩
set_option maxRecDepth 20000 in
theorem lv_X6_19 : xLV RX6 19 6 1 mX6_has := ⟨_, rfl, rfl, Or.inl (xm4 116 rfl), xm3 91 rfl, xm3 92 rfl, cw_X6_has, in_X6, ⟨by decide +kernel, by decide +kernel⟩, by decide +kernel⟩
set_option maxRecDepth 20000 in
theorem li_L_18 : xLI RL 18 0 mX14_init := ⟨rfl, rfl, rfl, Or.inl (xm4 186 rfl), xm4 187 rfl, cw_X14_init, in_X14, ⟨by decide +kernel, by decide +kernel⟩, by decide +kernel⟩
set_option maxRecDepth 20000 in
theorem ml_X14_1 : Cond.methodLink RX14 1 objectInit ∈ lw_tbl := xm4 189 rfl
set_option maxRecDepth 20000 in
theorem li_X14_48 : xLI RX14 48 0 mX13_init := ⟨rfl, rfl, rfl, Or.inl (xm4 201 rfl), xm4 202 rfl, cw_X13_init, in_X13, ⟨by decide +kernel, by decide +kernel⟩, by decide +kernel⟩
set_option maxRecDepth 20000 in
theorem lv_L_49 : xLV RL 49 14 0 mX14_thrown := ⟨_, rfl, rfl, Or.inl (xm5 112 rfl), xm5 113 rfl, xm5 114 rfl, cw_X14_thrown, in_X14, ⟨by decide +kernel, by decide +kernel⟩, by decide +kernel⟩
set_option maxRecDepth 20000 in
theorem lv_L_23 : xLV RL 23 14 5 mX14_feed := ⟨_, rfl, rfl, Or.inl (xm5 116 rfl), xm5 117 rfl, xm5 118 rfl, cw_X14_feed, in_X14, ⟨by decide +kernel, by decide +kernel⟩, by decide +kernel⟩
set_option maxRecDepth 20000 in
theorem lv_X14_214 : xLV RX14 214 14 1 mX14_refused := ⟨_, rfl, rfl, Or.inl (xm5 124 rfl), xm5 126 rfl, xmem0 33 rfl, cw_X14_refused, in_X14, ⟨by decide +kernel, by decide +kernel⟩, by decide +kernel⟩
set_option maxRecDepth 20000 in
theorem lv_X14_143 : xLV RX14 143 14 0 mX14_next := ⟨_, rfl, rfl, Or.inl (xm5 128 rfl), xm5 130 rfl, xmem0 34 rfl, cw_X14_next, in_X14, ⟨by decide +kernel, by decide +kernel⟩, by decide +kernel⟩
set_option maxRecDepth 20000 in
theorem lv_X14_110 : xLV RX14 110 14 1 mX14_byteAt := ⟨_, rfl, rfl, Or.inl (xm5 132 rfl), xm5 134 rfl, xmem0 35 rfl, cw_X14_byteAt, in_X14, ⟨by decide +kernel, by decide +kernel⟩, by decide +kernel⟩
set_option maxRecDepth 20000 in
theorem ls_X14_121 : xLS RX14 121 1 mX14_isLetter := ⟨rfl, xm5 136 rfl, xm5 137 rfl, cw_X14_isLetter, in_X14, ⟨by decide +kernel, by decide +kernel⟩, by decide +kernel⟩
set_option maxRecDepth 20000 in
theorem lv_X14_223 : xLV RX14 223 14 0 mX14_readClause := ⟨_, rfl, rfl, Or.inl (xm5 140 rfl), xm5 142 rfl, xmem0 36 rfl, cw_X14_readClause, in_X14, ⟨by decide +kernel, by decide +kernel⟩, by decide +kernel⟩
set_option maxRecDepth 20000 in
theorem ml_X12_3 : Cond.methodLink RX12 3 objectInit ∈ lw_tbl := xm5 148 rfl
set_option maxRecDepth 20000 in
theorem lv_X14_188 : xLV RX14 188 14 2 mX14_readAtom := ⟨_, rfl, rfl, Or.inl (xm5 180 rfl), xm5 182 rfl, xmem0 37 rfl, cw_X14_readAtom, in_X14, ⟨by decide +kernel, by decide +kernel⟩, by decide +kernel⟩
set_option maxRecDepth 20000 in
theorem lv_X14_165 : xLV RX14 165 14 0 mX14_isNot := ⟨_, rfl, rfl, Or.inl (xm5 184 rfl), xm5 186 rfl, xmem0 38 rfl, cw_X14_isNot, in_X14, ⟨by decide +kernel, by decide +kernel⟩, by decide +kernel⟩
set_option maxRecDepth 20000 in
theorem lv_X14_136 : xLV RX14 136 14 2 mX14_stop := ⟨_, rfl, rfl, Or.inl (xm5 189 rfl), xm5 191 rfl, xmem0 39 rfl, cw_X14_stop, in_X14, ⟨by decide +kernel, by decide +kernel⟩, by decide +kernel⟩
set_option maxRecDepth 20000 in
theorem lv_X14_179 : xLV RX14 179 14 1 mX14_is := ⟨_, rfl, rfl, Or.inl (xm5 193 rfl), xm5 195 rfl, xmem0 40 rfl, cw_X14_is, in_X14, ⟨by decide +kernel, by decide +kernel⟩, by decide +kernel⟩
set_option maxRecDepth 20000 in
theorem lv_X14_182 : xLV RX14 182 14 1 mX14_readArg := ⟨_, rfl, rfl, Or.inl (xm5 197 rfl), xm5 199 rfl, xmem0 41 rfl, cw_X14_readArg, in_X14, ⟨by decide +kernel, by decide +kernel⟩, by decide +kernel⟩
set_option maxRecDepth 20000 in
theorem lv_X14_139 : xLV RX14 139 14 0 mX14_thingHere := ⟨_, rfl, rfl, Or.inl (xm5 201 rfl), xm5 203 rfl, xmem0 42 rfl, cw_X14_thingHere, in_X14, ⟨by decide +kernel, by decide +kernel⟩, by decide +kernel⟩
set_option maxRecDepth 20000 in
theorem lv_X14_150 : xLV RX14 150 12 1 mX12_signOf := ⟨_, rfl, rfl, Or.inl (xm5 205 rfl), xm5 206 rfl, xm5 207 rfl, cw_X12_signOf, in_X12, ⟨by decide +kernel, by decide +kernel⟩, by decide +kernel⟩
set_option maxRecDepth 20000 in
theorem ls_X14_192 : xLS RX14 192 2 mX14_numberOf := ⟨rfl, xm5 209 rfl, xm5 210 rfl, cw_X14_numberOf, in_X14, ⟨by decide +kernel, by decide +kernel⟩, by decide +kernel⟩
set_option maxRecDepth 20000 in
theorem ml_X14_205 : Cond.methodLink RX14 205 Lib.Math.max.name ∈ lw_tbl := xm5 212 rfl
set_option maxRecDepth 20000 in
theorem lv_X14_196 : xLV RX14 196 14 0 mX14_readTerm := ⟨_, rfl, rfl, Or.inl (xm5 213 rfl), xm5 215 rfl, xmem0 43 rfl, cw_X14_readTerm, in_X14, ⟨by decide +kernel, by decide +kernel⟩, by decide +kernel⟩
set_option maxRecDepth 20000 in
theorem lv_X14_202 : xLV RX14 202 14 0 mX14_isBeforeUnlike := ⟨_, rfl, rfl, Or.inl (xm5 217 rfl), xm5 219 rfl, xmem0 44 rfl, cw_X14_isBeforeUnlike, in_X14, ⟨by decide +kernel, by decide +kernel⟩, by decide +kernel⟩
set_option maxRecDepth 20000 in
theorem lv_X14_226 : xLV RX14 226 14 1 mX14_layers := ⟨_, rfl, rfl, Or.inl (xm5 221 rfl), xm5 223 rfl, xmem0 45 rfl, cw_X14_layers, in_X14, ⟨by decide +kernel, by decide +kernel⟩, by decide +kernel⟩
set_option maxRecDepth 20000 in
theorem lv_X14_229 : xLV RX14 229 14 1 mX14_done := ⟨_, rfl, rfl, Or.inl (xm5 225 rfl), xm5 227 rfl, xmem0 46 rfl, cw_X14_done, in_X14, ⟨by decide +kernel, by decide +kernel⟩, by decide +kernel⟩
set_option maxRecDepth 20000 in
theorem lv_L_33 : xLV RL 33 14 0 mX14_fault := ⟨_, rfl, rfl, Or.inl (xm5 229 rfl), xm5 230 rfl, xm5 231 rfl, cw_X14_fault, in_X14, ⟨by decide +kernel, by decide +kernel⟩, by decide +kernel⟩
set_option maxRecDepth 20000 in
theorem lv_L_37 : xLV RL 37 14 0 mX14_where := ⟨_, rfl, rfl, Or.inl (xm5 233 rfl), xm5 234 rfl, xm5 235 rfl, cw_X14_where, in_X14, ⟨by decide +kernel, by decide +kernel⟩, by decide +kernel⟩
set_option maxRecDepth 20000 in
theorem lv_L_42 : xLV RL 42 14 3 mX14_atom := ⟨_, rfl, rfl, Or.inl (xm5 237 rfl), xm5 238 rfl, xm5 239 rfl, cw_X14_atom, in_X14, ⟨by decide +kernel, by decide +kernel⟩, by decide +kernel⟩
set_option maxRecDepth 20000 in
theorem lv_X14_232 : xLV RX14 232 14 1 mX14_isKind := ⟨_, rfl, rfl, Or.inl (xm6 1 rfl), xm6 3 rfl, xmem0 47 rfl, cw_X14_isKind, in_X14, ⟨by decide +kernel, by decide +kernel⟩, by decide +kernel⟩
set_option maxRecDepth 20000 in
theorem ls_X14_235 : xLS RX14 235 3 mX14_in := ⟨rfl, xm6 5 rfl, xm6 6 rfl, cw_X14_in, in_X14, ⟨by decide +kernel, by decide +kernel⟩, by decide +kernel⟩
set_option maxRecDepth 20000 in
theorem lv_X14_239 : xLV RX14 239 14 1 mX14_isAtom := ⟨_, rfl, rfl, Or.inl (xm6 8 rfl), xm6 10 rfl, xmem0 48 rfl, cw_X14_isAtom, in_X14, ⟨by decide +kernel, by decide +kernel⟩, by decide +kernel⟩
set_option maxRecDepth 20000 in
theorem lv_L_48 : xLV RL 48 14 3 mX14_name := ⟨_, rfl, rfl, Or.inl (xm6 12 rfl), xm6 13 rfl, xm6 14 rfl, cw_X14_name, in_X14, ⟨by decide +kernel, by decide +kernel⟩, by decide +kernel⟩
set_option maxRecDepth 20000 in
theorem lv_L_55 : xLV RL 55 14 1 mX14_places := ⟨_, rfl, rfl, Or.inl (xm6 17 rfl), xm6 18 rfl, xm6 19 rfl, cw_X14_places, in_X14, ⟨by decide +kernel, by decide +kernel⟩, by decide +kernel⟩
set_option maxRecDepth 20000 in
theorem lv_L_59 : xLV RL 59 14 1 mX14_layer := ⟨_, rfl, rfl, Or.inl (xm6 21 rfl), xm6 22 rfl, xm6 23 rfl, cw_X14_layer, in_X14, ⟨by decide +kernel, by decide +kernel⟩, by decide +kernel⟩
set_option maxRecDepth 20000 in
theorem lv_L_64 : xLV RL 64 14 2 mX14_fact := ⟨_, rfl, rfl, Or.inl (xm6 25 rfl), xm6 26 rfl, xm6 27 rfl, cw_X14_fact, in_X14, ⟨by decide +kernel, by decide +kernel⟩, by decide +kernel⟩
set_option maxRecDepth 20000 in
theorem lv_L_69 : xLV RL 69 14 1 mX14_drop := ⟨_, rfl, rfl, Or.inl (xm6 29 rfl), xm6 30 rfl, xm6 31 rfl, cw_X14_drop, in_X14, ⟨by decide +kernel, by decide +kernel⟩, by decide +kernel⟩
set_option maxRecDepth 20000 in
theorem lv_X14_244 : xLV RX14 244 14 1 mX14_isRule := ⟨_, rfl, rfl, Or.inl (xm6 33 rfl), xm6 35 rfl, xmem0 49 rfl, cw_X14_isRule, in_X14, ⟨by decide +kernel, by decide +kernel⟩, by decide +kernel⟩
set_option maxRecDepth 20000 in
theorem lv_X14_247 : xLV RX14 247 14 1 mX14_denied := ⟨_, rfl, rfl, Or.inl (xm6 37 rfl), xm6 39 rfl, xmem0 50 rfl, cw_X14_denied, in_X14, ⟨by decide +kernel, by decide +kernel⟩, by decide +kernel⟩
set_option maxRecDepth 20000 in
theorem lv_X14_250 : xLV RX14 250 14 0 mX14_granted := ⟨_, rfl, rfl, Or.inl (xm6 41 rfl), xm6 43 rfl, xmem0 51 rfl, cw_X14_granted, in_X14, ⟨by decide +kernel, by decide +kernel⟩, by decide +kernel⟩
set_option maxRecDepth 20000 in
theorem lv_L_73 : xLV RL 73 14 1 mX14_follows := ⟨_, rfl, rfl, Or.inl (xm6 45 rfl), xm6 46 rfl, xm6 47 rfl, cw_X14_follows, in_X14, ⟨by decide +kernel, by decide +kernel⟩, by decide +kernel⟩
set_option maxRecDepth 20000 in
theorem lv_X14_284 : xLV RX14 284 14 1 mX14_works := ⟨_, rfl, rfl, Or.inl (xm6 49 rfl), xm6 51 rfl, xmem0 52 rfl, cw_X14_works, in_X14, ⟨by decide +kernel, by decide +kernel⟩, by decide +kernel⟩
set_option maxRecDepth 20000 in
theorem lv_X14_258 : xLV RX14 258 14 1 mX14_takes := ⟨_, rfl, rfl, Or.inl (xm6 54 rfl), xm6 56 rfl, xmem0 53 rfl, cw_X14_takes, in_X14, ⟨by decide +kernel, by decide +kernel⟩, by decide +kernel⟩
set_option maxRecDepth 20000 in
theorem lv_X14_262 : xLV RX14 262 14 3 mX14_goes := ⟨_, rfl, rfl, Or.inl (xm6 58 rfl), xm6 60 rfl, xmem0 54 rfl, cw_X14_goes, in_X14, ⟨by decide +kernel, by decide +kernel⟩, by decide +kernel⟩
set_option maxRecDepth 20000 in
theorem lv_X14_269 : xLV RX14 269 14 1 mX14_hold := ⟨_, rfl, rfl, Or.inl (xm6 62 rfl), xm6 64 rfl, xmem0 55 rfl, cw_X14_hold, in_X14, ⟨by decide +kernel, by decide +kernel⟩, by decide +kernel⟩
set_option maxRecDepth 20000 in
theorem lv_X14_280 : xLV RX14 280 14 2 mX14_holds := ⟨_, rfl, rfl, Or.inl (xm6 66 rfl), xm6 68 rfl, xmem0 56 rfl, cw_X14_holds, in_X14, ⟨by decide +kernel, by decide +kernel⟩, by decide +kernel⟩
set_option maxRecDepth 20000 in
theorem lv_X14_266 : xLV RX14 266 14 1 mX14_argOf := ⟨_, rfl, rfl, Or.inl (xm6 70 rfl), xm6 72 rfl, xmem0 57 rfl, cw_X14_argOf, in_X14, ⟨by decide +kernel, by decide +kernel⟩, by decide +kernel⟩
set_option maxRecDepth 20000 in
theorem lv_X14_273 : xLV RX14 273 14 2 mX14_atomOf := ⟨_, rfl, rfl, Or.inl (xm6 74 rfl), xm6 76 rfl, xmem0 58 rfl, cw_X14_atomOf, in_X14, ⟨by decide +kernel, by decide +kernel⟩, by decide +kernel⟩
set_option maxRecDepth 20000 in
theorem lv_X14_276 : xLV RX14 276 14 2 mX14_fits := ⟨_, rfl, rfl, Or.inl (xm6 78 rfl), xm6 80 rfl, xmem0 59 rfl, cw_X14_fits, in_X14, ⟨by decide +kernel, by decide +kernel⟩, by decide +kernel⟩
set_option maxRecDepth 20000 in
theorem lv_L_77 : xLV RL 77 14 1 mX14_many := ⟨_, rfl, rfl, Or.inl (xm6 82 rfl), xm6 83 rfl, xm6 84 rfl, cw_X14_many, in_X14, ⟨by decide +kernel, by decide +kernel⟩, by decide +kernel⟩
set_option maxRecDepth 20000 in
theorem lv_X14_288 : xLV RX14 288 14 2 mX14_oneOf := ⟨_, rfl, rfl, Or.inl (xm6 86 rfl), xm6 88 rfl, xmem0 60 rfl, cw_X14_oneOf, in_X14, ⟨by decide +kernel, by decide +kernel⟩, by decide +kernel⟩
set_option maxRecDepth 20000 in
theorem lv_L_82 : xLV RL 82 14 2 mX14_one := ⟨_, rfl, rfl, Or.inl (xm6 90 rfl), xm6 91 rfl, xm6 92 rfl, cw_X14_one, in_X14, ⟨by decide +kernel, by decide +kernel⟩, by decide +kernel⟩
set_option maxRecDepth 20000 in
theorem lv_L_86 : xLV RL 86 14 1 mX14_steps := ⟨_, rfl, rfl, Or.inl (xm6 94 rfl), xm6 95 rfl, xm6 96 rfl, cw_X14_steps, in_X14, ⟨by decide +kernel, by decide +kernel⟩, by decide +kernel⟩
set_option maxRecDepth 20000 in
theorem lv_L_90 : xLV RL 90 14 1 mX14_why := ⟨_, rfl, rfl, Or.inl (xm6 98 rfl), xm6 99 rfl, xm6 100 rfl, cw_X14_why, in_X14, ⟨by decide +kernel, by decide +kernel⟩, by decide +kernel⟩
set_option maxRecDepth 20000 in
theorem lv_X14_291 : xLV RX14 291 14 1 mX14_ways := ⟨_, rfl, rfl, Or.inl (xm6 102 rfl), xm6 104 rfl, xmem0 61 rfl, cw_X14_ways, in_X14, ⟨by decide +kernel, by decide +kernel⟩, by decide +kernel⟩
set_option maxRecDepth 20000 in
theorem lv_X14_295 : xLV RX14 295 14 2 mX14_gives := ⟨_, rfl, rfl, Or.inl (xm6 106 rfl), xm6 108 rfl, xmem0 62 rfl, cw_X14_gives, in_X14, ⟨by decide +kernel, by decide +kernel⟩, by decide +kernel⟩
set_option maxRecDepth 20000 in
theorem lv_X14_299 : xLV RX14 299 14 3 mX14_leads := ⟨_, rfl, rfl, Or.inl (xm6 110 rfl), xm6 112 rfl, xmem0 63 rfl, cw_X14_leads, in_X14, ⟨by decide +kernel, by decide +kernel⟩, by decide +kernel⟩
set_option maxRecDepth 20000 in
theorem lv_L_94 : xLV RL 94 14 1 mX14_because := ⟨_, rfl, rfl, Or.inl (xm6 114 rfl), xm6 115 rfl, xm6 116 rfl, cw_X14_because, in_X14, ⟨by decide +kernel, by decide +kernel⟩, by decide +kernel⟩
set_option maxRecDepth 20000 in
theorem lv_L_98 : xLV RL 98 14 2 mX14_comes := ⟨_, rfl, rfl, Or.inl (xm6 118 rfl), xm6 119 rfl, xm6 120 rfl, cw_X14_comes, in_X14, ⟨by decide +kernel, by decide +kernel⟩, by decide +kernel⟩
set_option maxRecDepth 20000 in
theorem lv_L_102 : xLV RL 102 14 2 mX14_rule := ⟨_, rfl, rfl, Or.inl (xm6 122 rfl), xm6 123 rfl, xm6 124 rfl, cw_X14_rule, in_X14, ⟨by decide +kernel, by decide +kernel⟩, by decide +kernel⟩
set_option maxRecDepth 20000 in
theorem lv_X14_309 : xLV RX14 309 14 1 mX14_isIdle := ⟨_, rfl, rfl, Or.inl (xm6 126 rfl), xm6 128 rfl, xmem0 64 rfl, cw_X14_isIdle, in_X14, ⟨by decide +kernel, by decide +kernel⟩, by decide +kernel⟩
set_option maxRecDepth 20000 in
theorem lv_X14_312 : xLV RX14 312 14 1 mX14_isSpare := ⟨_, rfl, rfl, Or.inl (xm6 130 rfl), xm6 132 rfl, xmem0 65 rfl, cw_X14_isSpare, in_X14, ⟨by decide +kernel, by decide +kernel⟩, by decide +kernel⟩
set_option maxRecDepth 20000 in
theorem lv_X14_306 : xLV RX14 306 14 0 mX14_remembers := ⟨_, rfl, rfl, Or.inl (xm6 134 rfl), xm6 136 rfl, xmem0 66 rfl, cw_X14_remembers, in_X14, ⟨by decide +kernel, by decide +kernel⟩, by decide +kernel⟩
set_option maxRecDepth 20000 in
theorem lv_L_106 : xLV RL 106 14 3 mX14_term := ⟨_, rfl, rfl, Or.inl (xm6 138 rfl), xm6 139 rfl, xm6 140 rfl, cw_X14_term, in_X14, ⟨by decide +kernel, by decide +kernel⟩, by decide +kernel⟩
set_option maxRecDepth 20000 in
theorem lv_L_110 : xLV RL 110 14 1 mX14_go := ⟨_, rfl, rfl, Or.inl (xm6 142 rfl), xm6 143 rfl, xm6 144 rfl, cw_X14_go, in_X14, ⟨by decide +kernel, by decide +kernel⟩, by decide +kernel⟩
set_option maxRecDepth 20000 in
theorem lv_X14_318 : xLV RX14 318 14 4 mX14_loses := ⟨_, rfl, rfl, Or.inl (xm6 146 rfl), xm6 148 rfl, xmem0 67 rfl, cw_X14_loses, in_X14, ⟨by decide +kernel, by decide +kernel⟩, by decide +kernel⟩
set_option maxRecDepth 20000 in
theorem lv_L_114 : xLV RL 114 14 1 mX14_gone := ⟨_, rfl, rfl, Or.inl (xm6 150 rfl), xm6 151 rfl, xm6 152 rfl, cw_X14_gone, in_X14, ⟨by decide +kernel, by decide +kernel⟩, by decide +kernel⟩
set_option maxRecDepth 20000 in
theorem lv_L_118 : xLV RL 118 14 0 mX14_derived := ⟨_, rfl, rfl, Or.inl (xm6 154 rfl), xm6 155 rfl, xm6 156 rfl, cw_X14_derived, in_X14, ⟨by decide +kernel, by decide +kernel⟩, by decide +kernel⟩
set_option maxRecDepth 20000 in
theorem lv_L_122 : xLV RL 122 14 0 mX14_deepest := ⟨_, rfl, rfl, Or.inl (xm6 158 rfl), xm6 159 rfl, xm6 160 rfl, cw_X14_deepest, in_X14, ⟨by decide +kernel, by decide +kernel⟩, by decide +kernel⟩
set_option maxRecDepth 20000 in
theorem lv_L_126 : xLV RL 126 14 2 mX14_turned := ⟨_, rfl, rfl, Or.inl (xm6 162 rfl), xm6 163 rfl, xm6 164 rfl, cw_X14_turned, in_X14, ⟨by decide +kernel, by decide +kernel⟩, by decide +kernel⟩
set_option maxRecDepth 20000 in
theorem lv_L_130 : xLV RL 130 14 1 mX14_count := ⟨_, rfl, rfl, Or.inl (xm6 166 rfl), xm6 167 rfl, xm6 168 rfl, cw_X14_count, in_X14, ⟨by decide +kernel, by decide +kernel⟩, by decide +kernel⟩
set_option maxRecDepth 20000 in
theorem lv_L_134 : xLV RL 134 14 0 mX14_trouble := ⟨_, rfl, rfl, Or.inl (xm6 170 rfl), xm6 171 rfl, xm6 172 rfl, cw_X14_trouble, in_X14, ⟨by decide +kernel, by decide +kernel⟩, by decide +kernel⟩
set_option maxRecDepth 20000 in
theorem li_X0_11 : xLI RX0 11 0 mX6_init := ⟨rfl, rfl, rfl, Or.inr ⟨"RuleCourt", xm1 40 rfl⟩, xm1 41 rfl, cw_X6_init, in_X6, ⟨by decide +kernel, by decide +kernel⟩, by decide +kernel⟩
set_option maxRecDepth 20000 in
theorem li_X0_27 : xLI RX0 27 0 mX4_init := ⟨rfl, rfl, rfl, Or.inr ⟨"RuleCourt", xm1 59 rfl⟩, xm1 60 rfl, cw_X4_init, in_X4, ⟨by decide +kernel, by decide +kernel⟩, by decide +kernel⟩
set_option maxRecDepth 20000 in
theorem li_X8_11 : xLI RX8 11 0 mX9_init := ⟨rfl, rfl, rfl, Or.inr ⟨"RuleCourt", xm1 79 rfl⟩, xm1 80 rfl, cw_X9_init, in_X9, ⟨by decide +kernel, by decide +kernel⟩, by decide +kernel⟩
set_option maxRecDepth 20000 in
theorem li_X7_11 : xLI RX7 11 0 mX10_init := ⟨rfl, rfl, rfl, Or.inr ⟨"RuleCourt", xm1 217 rfl⟩, xm1 218 rfl, cw_X10_init, in_X10, ⟨by decide +kernel, by decide +kernel⟩, by decide +kernel⟩
set_option maxRecDepth 20000 in
theorem lv_X3_82 : xLV RX3 82 2 2 mX2_walk := ⟨_, rfl, rfl, Or.inr ⟨"RuleCourt", xm3 170 rfl⟩, xm3 172 rfl, xmem0 21 rfl, cw_X2_walk, in_X2, ⟨by decide +kernel, by decide +kernel⟩, by decide +kernel⟩
set_option maxRecDepth 20000 in
theorem li_X14_186 : xLI RX14 186 0 mX12_init := ⟨rfl, rfl, rfl, Or.inr ⟨"RuleCourtModel", xm5 145 rfl⟩, xm5 146 rfl, cw_X12_init, in_X12, ⟨by decide +kernel, by decide +kernel⟩, by decide +kernel⟩
