def mtb0 : List MT := [(yJ6_bitCount_0f7a4, cJ6_bitCount_0f7a4, 1, (some .int)), (yJ9_max_7cf53, cJ9_max_7cf53, 2, (some .int)), (yJ9_min_7cf53, cJ9_min_7cf53, 2, (some .int)), (yX0_addField, cX0_addField, 4, (some .int)), (yX0_addPerson, cX0_addPerson, 5, (some .int)), (yX0_addRoad, cX0_addRoad, 3, none), (yX0_copyFrom, cX0_copyFrom, 2, none), (yX0_hasField, cX0_hasField, 2, (some .boolean)), (yX0_hasPerson, cX0_hasPerson, 2, (some .boolean)), (yX0_hasRoad, cX0_hasRoad, 3, (some .boolean)), (yX10_copyFrom, cX10_copyFrom, 2, none), (yX10_drawAnew, cX10_drawAnew, 1, none), (yX10_peopleOn, cX10_peopleOn, 5, (some .int)), (yX10_rain, cX10_rain, 2, (some .int)), (yX10_rainDrops, cX10_rainDrops, 2, (some .int)), (yX10_rainField, cX10_rainField, 2, (some .int))]
def mtb1 : List MT := [(yX10_rainHour, cX10_rainHour, 2, (some .int)), (yX10_rainPerson, cX10_rainPerson, 2, (some .int)), (yX10_settle, cX10_settle, 4, none), (yX10_take, cX10_take, 4, none), (yX10_whereWas, cX10_whereWas, 4, (some .int)), (yX10_writeRain, cX10_writeRain, 4, none), (yX10_writeWhere, cX10_writeWhere, 4, none), (yX11_about, cX11_about, 3, (some .int)), (yX11_back, cX11_back, 1, (some .int)), (yX11_bound, cX11_bound, 4, (some .int)), (yX11_bring, cX11_bring, 3, (some .int)), (yX11_by, cX11_by, 2, (some .boolean)), (yX11_canDo, cX11_canDo, 7, (some .boolean)), (yX11_commonDivisor, cX11_commonDivisor, 11, (some .long)), (yX11_cross, cX11_cross, 6, (some .int)), (yX11_draw, cX11_draw, 9, (some .int))]
def mtb2 : List MT := [(yX11_end, cX11_end, 2, (some .int)), (yX11_errors, cX11_errors, 3, (some .int)), (yX11_fault, cX11_fault, 2, (some .int)), (yX11_feed, cX11_feed, 6, (some .int)), (yX11_field, cX11_field, 6, (some .int)), (yX11_filling, cX11_filling, 15, (some .long)), (yX11_forecast, cX11_forecast, 4, (some .int)), (yX11_foretoldCloud, cX11_foretoldCloud, 4, (some .int)), (yX11_foretoldWet, cX11_foretoldWet, 3, (some .int)), (yX11_go, cX11_go, 3, (some .boolean)), (yX11_greatestTax, cX11_greatestTax, 2, (some .int)), (yX11_hotHours, cX11_hotHours, 5, (some (.array .long))), (yX11_hour, cX11_hour, 4, (some .int)), (yX11_image, cX11_image, 1, (some .int)), (yX11_isOf, cX11_isOf, 2, (some .boolean)), (yX11_isSet, cX11_isSet, 2, (some .boolean))]
def mtb3 : List MT := [(yX11_isWithin, cX11_isWithin, 3, (some .boolean)), (yX11_market, cX11_market, 4, (some .int)), (yX11_match, cX11_match, 6, (some .int)), (yX11_missing, cX11_missing, 5, (some .int)), (yX11_near, cX11_near, 4, (some .int)), (yX11_nearOnes, cX11_nearOnes, 10, (some .int)), (yX11_ofField, cX11_ofField, 5, (some .int)), (yX11_ofPerson, cX11_ofPerson, 5, (some .int)), (yX11_offer, cX11_offer, 5, (some .int)), (yX11_person, cX11_person, 8, (some .int)), (yX11_plan, cX11_plan, 4, (some .int)), (yX11_played, cX11_played, 4, (some .int)), (yX11_pour, cX11_pour, 4, (some .int)), (yX11_rained, cX11_rained, 4, (some .int)), (yX11_road, cX11_road, 4, (some .boolean)), (yX11_shake, cX11_shake, 3, (some .int))]
def mtb4 : List MT := [(yX11_shares, cX11_shares, 11, (some .int)), (yX11_steal, cX11_steal, 4, (some .int)), (yX11_text, cX11_text, 2, (some .int)), (yX11_thieves, cX11_thieves, 6, (some .int)), (yX11_undo, cX11_undo, 1, (some .int)), (yX11_water, cX11_water, 4, (some .int)), (yX11_widest, cX11_widest, 3, (some .int)), (yX11_work, cX11_work, 3, (some .boolean)), (yX11_year, cX11_year, 5, (some .int)), (yX12_about, cX12_about, 2, (some .int)), (yX12_addTo, cX12_addTo, 3, none), (yX12_anew, cX12_anew, 1, (some .int)), (yX12_areHours, cX12_areHours, 3, (some .boolean)), (yX12_back, cX12_back, 1, (some .int)), (yX12_begin, cX12_begin, 2, none), (yX12_bits, cX12_bits, 3, (some .int))]
def mtb5 : List MT := [(yX12_bound, cX12_bound, 3, (some .int)), (yX12_by, cX12_by, 2, (some .boolean)), (yX12_canCome, cX12_canCome, 3, (some .boolean)), (yX12_canGo, cX12_canGo, 3, (some .boolean)), (yX12_canShake, cX12_canShake, 3, (some .boolean)), (yX12_canSteal, cX12_canSteal, 4, (some .boolean)), (yX12_common, cX12_common, 10, (some .long)), (yX12_copy, cX12_copy, 3, none), (yX12_cross, cX12_cross, 8, (some .int)), (yX12_dryAll, cX12_dryAll, 4, none), (yX12_end, cX12_end, 2, (some .int)), (yX12_errors, cX12_errors, 3, (some .int)), (yX12_errorsOf, cX12_errorsOf, 7, (some .int)), (yX12_fault, cX12_fault, 2, (some .int)), (yX12_feed, cX12_feed, 6, (some .int)), (yX12_field, cX12_field, 6, (some .int))]
def mtb6 : List MT := [(yX12_fieldOf, cX12_fieldOf, 3, (some .int)), (yX12_filling, cX12_filling, 12, (some .long)), (yX12_findRoads, cX12_findRoads, 6, none), (yX12_findYields, cX12_findYields, 4, none), (yX12_forecast, cX12_forecast, 3, (some .int)), (yX12_foretoldCloud, cX12_foretoldCloud, 5, (some .int)), (yX12_foretoldWet, cX12_foretoldWet, 4, (some .int)), (yX12_four, cX12_four, 3, none), (yX12_get, cX12_get, 3, (some .int)), (yX12_go, cX12_go, 3, (some .boolean)), (yX12_greatestTax, cX12_greatestTax, 6, (some .int)), (yX12_happens, cX12_happens, 6, (some .int)), (yX12_has, cX12_has, 2, (some .boolean)), (yX12_hour, cX12_hour, 4, (some .int)), (yX12_image, cX12_image, 1, (some .int)), (yX12_isField, cX12_isField, 2, (some .boolean))]
def mtb7 : List MT := [(yX12_isIn, cX12_isIn, 3, (some .boolean)), (yX12_isPerson, cX12_isPerson, 2, (some .boolean)), (yX12_isPlayed, cX12_isPlayed, 5, (some .boolean)), (yX12_keep, cX12_keep, 4, none), (yX12_layWorkers, cX12_layWorkers, 5, (some .boolean)), (yX12_market, cX12_market, 4, (some .int)), (yX12_match, cX12_match, 9, (some .int)), (yX12_missing, cX12_missing, 5, (some .int)), (yX12_name, cX12_name, 2, none), (yX12_near, cX12_near, 4, (some .int)), (yX12_nearOf, cX12_nearOf, 7, (some .int)), (yX12_nextField, cX12_nextField, 4, (some .int)), (yX12_ofField, cX12_ofField, 3, (some .int)), (yX12_ofPerson, cX12_ofPerson, 3, (some .int)), (yX12_offer, cX12_offer, 5, (some .int)), (yX12_pass, cX12_pass, 3, (some .int))]
def mtb8 : List MT := [(yX12_passOnward, cX12_passOnward, 2, none), (yX12_passStep, cX12_passStep, 1, (some .int)), (yX12_peopleOn, cX12_peopleOn, 4, (some .int)), (yX12_person, cX12_person, 7, (some .int)), (yX12_plan, cX12_plan, 8, (some .int)), (yX12_played, cX12_played, 3, (some .int)), (yX12_pour, cX12_pour, 3, (some .int)), (yX12_putBack, cX12_putBack, 2, none), (yX12_rainAll, cX12_rainAll, 3, (some .int)), (yX12_rainOf, cX12_rainOf, 5, none), (yX12_rained, cX12_rained, 5, (some .int)), (yX12_readText, cX12_readText, 2, (some .int)), (yX12_road, cX12_road, 3, (some .boolean)), (yX12_says, cX12_says, 9, (some .int)), (yX12_set, cX12_set, 4, none), (yX12_shake, cX12_shake, 3, (some .int))]
def mtb9 : List MT := [(yX12_shakeNow, cX12_shakeNow, 5, none), (yX12_shares, cX12_shares, 9, (some .int)), (yX12_steal, cX12_steal, 4, (some .int)), (yX12_stealNow, cX12_stealNow, 4, none), (yX12_sweatAllFor, cX12_sweatAllFor, 5, (some .int)), (yX12_sweatBy, cX12_sweatBy, 10, (some .int)), (yX12_sweatOf, cX12_sweatOf, 4, (some .int)), (yX12_text, cX12_text, 1, (some .int)), (yX12_thieves, cX12_thieves, 5, (some .int)), (yX12_tradedAt, cX12_tradedAt, 6, (some .int)), (yX12_undo, cX12_undo, 5, (some .int)), (yX12_wasAt, cX12_wasAt, 3, (some .int)), (yX12_water, cX12_water, 3, (some .int)), (yX12_wet, cX12_wet, 3, none), (yX12_widest, cX12_widest, 4, (some .int)), (yX12_work, cX12_work, 3, (some .boolean))]
def mtb10 : List MT := [(yX12_worked, cX12_worked, 9, (some .int)), (yX12_write, cX12_write, 3, none), (yX12_year, cX12_year, 7, (some .int)), (yX1_addForecast, cX1_addForecast, 3, (some .int)), (yX1_addMissing, cX1_addMissing, 4, (some .int)), (yX1_addOffer, cX1_addOffer, 4, (some .int)), (yX1_copyFrom, cX1_copyFrom, 3, none), (yX1_falseAlarms, cX1_falseAlarms, 4, (some .int)), (yX1_misses, cX1_misses, 4, (some .int)), (yX1_traded, cX1_traded, 5, (some .int)), (yX2_assign, cX2_assign, 5, (some .int)), (yX2_firstRain, cX2_firstRain, 5, (some .int)), (yX2_foretell, cX2_foretell, 4, (some (.object "OwnRain$World"))), (yX2_freshWorld, cX2_freshWorld, 1, (some (.object "OwnRain$World"))), (yX2_growsAsMuch, cX2_growsAsMuch, 3, (some .boolean)), (yX2_harmlessTax, cX2_harmlessTax, 4, (some .int))]
def mtb11 : List MT := [(yX2_lowestPlace, cX2_lowestPlace, 5, (some .int)), (yX2_mostBeyond, cX2_mostBeyond, 7, (some .int)), (yX2_nextOf, cX2_nextOf, 4, (some .int)), (yX2_planWork, cX2_planWork, 3, none), (yX2_sweatAt, cX2_sweatAt, 5, (some .int)), (yX2_tryWork, cX2_tryWork, 11, none), (yX3_advance, cX3_advance, 1, none), (yX3_expect, cX3_expect, 2, none), (yX3_expectNumber, cX3_expectNumber, 3, none), (yX3_fail, cX3_fail, 2, none), (yX3_isName, cX3_isName, 1, (some .boolean)), (yX3_isOwnName, cX3_isOwnName, 1, (some .boolean)), (yX3_opens, cX3_opens, 2, (some .boolean)), (yX3_readAsk, cX3_readAsk, 3, none), (yX3_readBoth, cX3_readBoth, 3, none), (yX3_readClause, cX3_readClause, 3, none)]
def mtb12 : List MT := [(yX3_readEither, cX3_readEither, 3, none), (yX3_readGroup, cX3_readGroup, 4, none), (yX3_readLaw, cX3_readLaw, 2, none), (yX3_readName, cX3_readName, 3, none), (yX3_readOne, cX3_readOne, 3, none), (yX3_readParts, cX3_readParts, 5, none), (yX3_readProduct, cX3_readProduct, 5, none), (yX3_readSum, cX3_readSum, 5, none), (yX3_readTape, cX3_readTape, 2, (some (.object "OwnRain$Text"))), (yX4_addText, cX4_addText, 2, (some .int)), (yX4_canGo, cX4_canGo, 3, (some .boolean)), (yX4_canMeet, cX4_canMeet, 3, (some .boolean)), (yX4_canTake, cX4_canTake, 4, (some .boolean)), (yX4_copyFrom, cX4_copyFrom, 3, none), (yX4_hasText, cX4_hasText, 2, (some .boolean)), (yX4_keepStep, cX4_keepStep, 1, none)]
def mtb13 : List MT := [(yX4_rules, cX4_rules, 1, (some (.object "OwnRain$Text"))), (yX4_takeBack, cX4_takeBack, 3, (some .int)), (yX5_copyFrom, cX5_copyFrom, 3, none), (yX5_keep, cX5_keep, 3, none), (yX5_takeBack, cX5_takeBack, 2, (some .int)), (yX6_addNumber, cX6_addNumber, 4, (some .int)), (yX6_addSign, cX6_addSign, 5, (some .int)), (yX6_addToken, cX6_addToken, 3, none), (yX6_addWord, cX6_addWord, 3, (some .int)), (yX6_append, cX6_append, 3, none), (yX6_findTokens, cX6_findTokens, 3, none), (yX6_isDigit, cX6_isDigit, 1, (some .boolean)), (yX6_isLetter, cX6_isLetter, 1, (some .boolean)), (yX6_wordOf, cX6_wordOf, 8, (some .int)), (yX7_hasLaw, cX7_hasLaw, 2, (some .boolean)), (yX7_write, cX7_write, 3, none)]
def mtb14 : List MT := [(yX8_comeTo, cX8_comeTo, 6, (some .int)), (yX8_measure, cX8_measure, 6, none), (yX8_nextField, cX8_nextField, 5, (some .int)), (yX8_widen, cX8_widen, 3, none), (yX8_width, cX8_width, 6, (some .int)), (yX9_bounded, cX9_bounded, 2, (some .int)), (yX9_closeHour, cX9_closeHour, 6, none), (yX9_law, cX9_law, 10, (some .int)), (yX9_merge, cX9_merge, 5, none), (yX9_pass, cX9_pass, 4, (some .int)), (yX9_rainFrom, cX9_rainFrom, 8, none), (yX9_run, cX9_run, 9, (some .int)), (yX9_sweatOf, cX9_sweatOf, 4, (some .int))]
def mtb : List (List MT) := [mtb0, mtb1, mtb2, mtb3, mtb4, mtb5, mtb6, mtb7, mtb8, mtb9, mtb10, mtb11, mtb12, mtb13, mtb14]
def mt (i : Nat) : MT := (mtb.getD (i / 16) []).getD (i % 16) (yJ6_bitCount_0f7a4, cJ6_bitCount_0f7a4, 0, none)
def lP (own : String) (e : Nat × Nat × Nat × Nat × Nat) : Prop := (e.2.1 ≤ 2 → lkOk own e.1 e.2.1 e.2.2.2.1 e.2.2.2.2 (mt e.2.2.1)) ∧ (e.2.1 = 9 → Cond.methodLink own e.1 arraycopyName ∈ gtbl)
def lJ6 : List (Nat × Nat × Nat × Nat × Nat) := []
theorem lJ6_ok : ∀ e ∈ lJ6, lP RJ6 e :=
  fa_nil
def lJ9 : List (Nat × Nat × Nat × Nat × Nat) := []
theorem lJ9_ok : ∀ e ∈ lJ9, lP RJ9 e :=
  fa_nil
def lX0 : List (Nat × Nat × Nat × Nat × Nat) := [(43, 9, 0, 0, 0)]
theorem lX0_ok : ∀ e ∈ lX0, lP RX0 e :=
  fa_cons (p := lP RX0) ⟨fun h => absurd h (by decide), fun _ => q1366⟩ <|
  fa_nil
def lX1 : List (Nat × Nat × Nat × Nat × Nat) := [(47, 1, 2, 0, 2), (53, 9, 0, 0, 0)]
theorem lX1_ok : ∀ e ∈ lX1, lP RX1 e :=
  fa_cons (p := lP RX1) ⟨fun _ => (show lkOk RX1 47 1 0 2 (yJ9_min_7cf53, cJ9_min_7cf53, 2, (some .int)) from ⟨⟨q130, q781, by decide, by decide, by decide⟩, ⟨q1336, q780, by decide +kernel⟩⟩), fun h => absurd h (by decide)⟩ <|
  fa_cons (p := lP RX1) ⟨fun h => absurd h (by decide), fun _ => q1376⟩ <|
  fa_nil
def lX2 : List (Nat × Nat × Nat × Nat × Nat) := [(51, 0, 10, 10, 2), (55, 0, 173, 2, 1), (59, 0, 233, 9, 2), (69, 2, 46, 0, 2), (76, 0, 181, 2, 6), (80, 9, 0, 0, 0), (113, 0, 172, 2, 2), (118, 0, 174, 2, 2), (125, 0, 180, 2, 3), (129, 0, 177, 2, 4), (133, 0, 176, 2, 4), (136, 0, 236, 9, 3), (140, 1, 0, 0, 1), (146, 1, 178, 0, 2), (149, 1, 1, 0, 2)]
theorem lX2_ok : ∀ e ∈ lX2, lP RX2 e :=
  fa_cons (p := lP RX2) ⟨fun _ => (show lkOk RX2 51 0 10 2 (yX10_copyFrom, cX10_copyFrom, 2, none) from ⟨⟨q116, q957, by decide, by decide, by decide⟩, ⟨q1172, q955, ⟨RX10, TX10, 15, rfl, q956⟩, by decide +kernel⟩⟩), fun h => absurd h (by decide)⟩ <|
  fa_cons (p := lP RX2) ⟨fun _ => (show lkOk RX2 55 0 2 1 (yX2_freshWorld, cX2_freshWorld, 1, (some (.object "OwnRain$World"))) from ⟨⟨q122, q1171, by decide, by decide, by decide⟩, ⟨q1168, q1170, ⟨RX2, TX2, 10, rfl, q29⟩, by decide +kernel⟩⟩), fun h => absurd h (by decide)⟩ <|
  fa_cons (p := lP RX2) ⟨fun _ => (show lkOk RX2 59 0 9 2 (yX9_pass, cX9_pass, 4, (some .int)) from ⟨⟨q121, q965, by decide, by decide, by decide⟩, ⟨q1173, q963, ⟨RX9, TX9, 10, rfl, q964⟩, by decide +kernel⟩⟩), fun h => absurd h (by decide)⟩ <|
  fa_cons (p := lP RX2) ⟨fun _ => (show lkOk RX2 69 2 0 2 (yX11_isOf, cX11_isOf, 2, (some .boolean)) from ⟨⟨q113, q1184, by decide, by decide, by decide⟩, ⟨by decide, q1183, by decide +kernel⟩⟩), fun h => absurd h (by decide)⟩ <|
  fa_cons (p := lP RX2) ⟨fun _ => (show lkOk RX2 76 0 2 6 (yX2_tryWork, cX2_tryWork, 11, none) from ⟨⟨q122, q1196, by decide, by decide, by decide⟩, ⟨q1193, q1195, ⟨RX2, TX2, 10, rfl, q30⟩, by decide +kernel⟩⟩), fun h => absurd h (by decide)⟩ <|
  fa_cons (p := lP RX2) ⟨fun h => absurd h (by decide), fun _ => q1197⟩ <|
  fa_cons (p := lP RX2) ⟨fun _ => (show lkOk RX2 113 0 2 2 (yX2_foretell, cX2_foretell, 4, (some (.object "OwnRain$World"))) from ⟨⟨q122, q1167, by decide, by decide, by decide⟩, ⟨q1345, q1165, ⟨RX2, TX2, 10, rfl, q1166⟩, by decide +kernel⟩⟩), fun h => absurd h (by decide)⟩ <|
  fa_cons (p := lP RX2) ⟨fun _ => (show lkOk RX2 118 0 2 2 (yX2_growsAsMuch, cX2_growsAsMuch, 3, (some .boolean)) from ⟨⟨q122, q1349, by decide, by decide, by decide⟩, ⟨q1346, q1348, ⟨RX2, TX2, 10, rfl, q37⟩, by decide +kernel⟩⟩), fun h => absurd h (by decide)⟩ <|
  fa_cons (p := lP RX2) ⟨fun _ => (show lkOk RX2 125 0 2 3 (yX2_sweatAt, cX2_sweatAt, 5, (some .int)) from ⟨⟨q122, q1213, by decide, by decide, by decide⟩, ⟨q1210, q1212, ⟨RX2, TX2, 10, rfl, q31⟩, by decide +kernel⟩⟩), fun h => absurd h (by decide)⟩ <|
  fa_cons (p := lP RX2) ⟨fun _ => (show lkOk RX2 129 0 2 4 (yX2_mostBeyond, cX2_mostBeyond, 7, (some .int)) from ⟨⟨q122, q1218, by decide, by decide, by decide⟩, ⟨q1215, q1217, ⟨RX2, TX2, 10, rfl, q32⟩, by decide +kernel⟩⟩), fun h => absurd h (by decide)⟩ <|
  fa_cons (p := lP RX2) ⟨fun _ => (show lkOk RX2 133 0 2 4 (yX2_lowestPlace, cX2_lowestPlace, 5, (some .int)) from ⟨⟨q122, q1227, by decide, by decide, by decide⟩, ⟨q1224, q1226, ⟨RX2, TX2, 10, rfl, q33⟩, by decide +kernel⟩⟩), fun h => absurd h (by decide)⟩ <|
  fa_cons (p := lP RX2) ⟨fun _ => (show lkOk RX2 136 0 9 3 (yX9_sweatOf, cX9_sweatOf, 4, (some .int)) from ⟨⟨q121, q969, by decide, by decide, by decide⟩, ⟨q1214, q967, ⟨RX9, TX9, 10, rfl, q968⟩, by decide +kernel⟩⟩), fun h => absurd h (by decide)⟩ <|
  fa_cons (p := lP RX2) ⟨fun _ => (show lkOk RX2 140 1 0 1 (yJ6_bitCount_0f7a4, cJ6_bitCount_0f7a4, 1, (some .int)) from ⟨⟨q133, q1024, by decide, by decide, by decide⟩, ⟨q1219, q1023, by decide +kernel⟩⟩), fun h => absurd h (by decide)⟩ <|
  fa_cons (p := lP RX2) ⟨fun _ => (show lkOk RX2 146 1 0 2 (yX2_nextOf, cX2_nextOf, 4, (some .int)) from ⟨⟨q122, q1222, by decide, by decide, by decide⟩, ⟨q1220, q1221, by decide +kernel⟩⟩), fun h => absurd h (by decide)⟩ <|
  fa_cons (p := lP RX2) ⟨fun _ => (show lkOk RX2 149 1 0 2 (yJ9_max_7cf53, cJ9_max_7cf53, 2, (some .int)) from ⟨⟨q130, q804, by decide, by decide, by decide⟩, ⟨q1223, q803, by decide +kernel⟩⟩), fun h => absurd h (by decide)⟩ <|
  fa_nil
def lX3 : List (Nat × Nat × Nat × Nat × Nat) := [(29, 0, 218, 6, 1), (43, 0, 191, 3, 2), (55, 0, 185, 3, 2), (58, 0, 222, 7, 2), (68, 0, 182, 3, 1), (71, 0, 194, 3, 2), (74, 0, 197, 3, 3), (78, 0, 183, 3, 2), (96, 0, 199, 3, 3), (115, 0, 184, 3, 3), (118, 2, 48, 0, 3), (122, 0, 190, 3, 2), (125, 0, 223, 7, 3), (128, 0, 189, 3, 2), (131, 0, 188, 3, 2), (134, 0, 198, 3, 3), (137, 0, 196, 3, 3), (140, 1, 186, 0, 1), (143, 0, 195, 3, 2), (147, 0, 193, 3, 2), (153, 0, 192, 3, 2), (159, 1, 187, 0, 1)]
theorem lX3_ok : ∀ e ∈ lX3, lP RX3 e :=
  fa_cons (p := lP RX3) ⟨fun _ => (show lkOk RX3 29 0 6 1 (yX6_findTokens, cX6_findTokens, 3, none) from ⟨⟨q119, q706, by decide, by decide, by decide⟩, ⟨q703, q704, ⟨RX6, TX6, 6, rfl, q705⟩, by decide +kernel⟩⟩), fun h => absurd h (by decide)⟩ <|
  fa_cons (p := lP RX3) ⟨fun _ => (show lkOk RX3 43 0 3 2 (yX3_readClause, cX3_readClause, 3, none) from ⟨⟨q120, q847, by decide, by decide, by decide⟩, ⟨q844, q846, ⟨RX3, TX3, 7, rfl, q5⟩, by decide +kernel⟩⟩), fun h => absurd h (by decide)⟩ <|
  fa_cons (p := lP RX3) ⟨fun _ => (show lkOk RX3 55 0 3 2 (yX3_fail, cX3_fail, 2, none) from ⟨⟨q120, q851, by decide, by decide, by decide⟩, ⟨q848, q850, ⟨RX3, TX3, 7, rfl, q6⟩, by decide +kernel⟩⟩), fun h => absurd h (by decide)⟩ <|
  fa_cons (p := lP RX3) ⟨fun _ => (show lkOk RX3 58 0 7 2 (yX7_hasLaw, cX7_hasLaw, 2, (some .boolean)) from ⟨⟨q125, q855, by decide, by decide, by decide⟩, ⟨q852, q853, ⟨RX7, TX7, 13, rfl, q854⟩, by decide +kernel⟩⟩), fun h => absurd h (by decide)⟩ <|
  fa_cons (p := lP RX3) ⟨fun _ => (show lkOk RX3 68 0 3 1 (yX3_advance, cX3_advance, 1, none) from ⟨⟨q120, q859, by decide, by decide, by decide⟩, ⟨q856, q858, ⟨RX3, TX3, 7, rfl, q7⟩, by decide +kernel⟩⟩), fun h => absurd h (by decide)⟩ <|
  fa_cons (p := lP RX3) ⟨fun _ => (show lkOk RX3 71 0 3 2 (yX3_readLaw, cX3_readLaw, 2, none) from ⟨⟨q120, q863, by decide, by decide, by decide⟩, ⟨q860, q862, ⟨RX3, TX3, 7, rfl, q8⟩, by decide +kernel⟩⟩), fun h => absurd h (by decide)⟩ <|
  fa_cons (p := lP RX3) ⟨fun _ => (show lkOk RX3 74 0 3 3 (yX3_readParts, cX3_readParts, 5, none) from ⟨⟨q120, q922, by decide, by decide, by decide⟩, ⟨q919, q921, ⟨RX3, TX3, 7, rfl, q20⟩, by decide +kernel⟩⟩), fun h => absurd h (by decide)⟩ <|
  fa_cons (p := lP RX3) ⟨fun _ => (show lkOk RX3 78 0 3 2 (yX3_expect, cX3_expect, 2, none) from ⟨⟨q120, q902, by decide, by decide, by decide⟩, ⟨q899, q901, ⟨RX3, TX3, 7, rfl, q15⟩, by decide +kernel⟩⟩), fun h => absurd h (by decide)⟩ <|
  fa_cons (p := lP RX3) ⟨fun _ => (show lkOk RX3 96 0 3 3 (yX3_readSum, cX3_readSum, 5, none) from ⟨⟨q120, q867, by decide, by decide, by decide⟩, ⟨q864, q866, ⟨RX3, TX3, 7, rfl, q9⟩, by decide +kernel⟩⟩), fun h => absurd h (by decide)⟩ <|
  fa_cons (p := lP RX3) ⟨fun _ => (show lkOk RX3 115 0 3 3 (yX3_expectNumber, cX3_expectNumber, 3, none) from ⟨⟨q120, q883, by decide, by decide, by decide⟩, ⟨q880, q882, ⟨RX3, TX3, 7, rfl, q12⟩, by decide +kernel⟩⟩), fun h => absurd h (by decide)⟩ <|
  fa_cons (p := lP RX3) ⟨fun _ => (show lkOk RX3 118 2 0 3 (yX11_isWithin, cX11_isWithin, 3, (some .boolean)) from ⟨⟨q113, q584, by decide, by decide, by decide⟩, ⟨by decide, q583, by decide +kernel⟩⟩), fun h => absurd h (by decide)⟩ <|
  fa_cons (p := lP RX3) ⟨fun _ => (show lkOk RX3 122 0 3 2 (yX3_readBoth, cX3_readBoth, 3, none) from ⟨⟨q120, q914, by decide, by decide, by decide⟩, ⟨q911, q913, ⟨RX3, TX3, 7, rfl, q18⟩, by decide +kernel⟩⟩), fun h => absurd h (by decide)⟩ <|
  fa_cons (p := lP RX3) ⟨fun _ => (show lkOk RX3 125 0 7 3 (yX7_write, cX7_write, 3, none) from ⟨⟨q125, q879, by decide, by decide, by decide⟩, ⟨q876, q877, ⟨RX7, TX7, 13, rfl, q878⟩, by decide +kernel⟩⟩), fun h => absurd h (by decide)⟩ <|
  fa_cons (p := lP RX3) ⟨fun _ => (show lkOk RX3 128 0 3 2 (yX3_readAsk, cX3_readAsk, 3, none) from ⟨⟨q120, q918, by decide, by decide, by decide⟩, ⟨q915, q917, ⟨RX3, TX3, 7, rfl, q19⟩, by decide +kernel⟩⟩), fun h => absurd h (by decide)⟩ <|
  fa_cons (p := lP RX3) ⟨fun _ => (show lkOk RX3 131 0 3 2 (yX3_opens, cX3_opens, 2, (some .boolean)) from ⟨⟨q120, q898, by decide, by decide, by decide⟩, ⟨q895, q897, ⟨RX3, TX3, 7, rfl, q14⟩, by decide +kernel⟩⟩), fun h => absurd h (by decide)⟩ <|
  fa_cons (p := lP RX3) ⟨fun _ => (show lkOk RX3 134 0 3 3 (yX3_readProduct, cX3_readProduct, 5, none) from ⟨⟨q120, q871, by decide, by decide, by decide⟩, ⟨q868, q870, ⟨RX3, TX3, 7, rfl, q10⟩, by decide +kernel⟩⟩), fun h => absurd h (by decide)⟩ <|
  fa_cons (p := lP RX3) ⟨fun _ => (show lkOk RX3 137 0 3 3 (yX3_readOne, cX3_readOne, 3, none) from ⟨⟨q120, q875, by decide, by decide, by decide⟩, ⟨q872, q874, ⟨RX3, TX3, 7, rfl, q11⟩, by decide +kernel⟩⟩), fun h => absurd h (by decide)⟩ <|
  fa_cons (p := lP RX3) ⟨fun _ => (show lkOk RX3 140 1 0 1 (yX3_isName, cX3_isName, 1, (some .boolean)) from ⟨⟨q120, q887, by decide, by decide, by decide⟩, ⟨q885, q886, by decide +kernel⟩⟩), fun h => absurd h (by decide)⟩ <|
  fa_cons (p := lP RX3) ⟨fun _ => (show lkOk RX3 143 0 3 2 (yX3_readName, cX3_readName, 3, none) from ⟨⟨q120, q894, by decide, by decide, by decide⟩, ⟨q891, q893, ⟨RX3, TX3, 7, rfl, q13⟩, by decide +kernel⟩⟩), fun h => absurd h (by decide)⟩ <|
  fa_cons (p := lP RX3) ⟨fun _ => (show lkOk RX3 147 0 3 2 (yX3_readGroup, cX3_readGroup, 4, none) from ⟨⟨q120, q906, by decide, by decide, by decide⟩, ⟨q903, q905, ⟨RX3, TX3, 7, rfl, q16⟩, by decide +kernel⟩⟩), fun h => absurd h (by decide)⟩ <|
  fa_cons (p := lP RX3) ⟨fun _ => (show lkOk RX3 153 0 3 2 (yX3_readEither, cX3_readEither, 3, none) from ⟨⟨q120, q910, by decide, by decide, by decide⟩, ⟨q907, q909, ⟨RX3, TX3, 7, rfl, q17⟩, by decide +kernel⟩⟩), fun h => absurd h (by decide)⟩ <|
  fa_cons (p := lP RX3) ⟨fun _ => (show lkOk RX3 159 1 0 1 (yX3_isOwnName, cX3_isOwnName, 1, (some .boolean)) from ⟨⟨q120, q890, by decide, by decide, by decide⟩, ⟨q888, q889, by decide +kernel⟩⟩), fun h => absurd h (by decide)⟩ <|
  fa_nil
def lX4 : List (Nat × Nat × Nat × Nat × Nat) := [(52, 0, 206, 4, 2), (56, 0, 8, 0, 2), (59, 0, 7, 0, 2), (66, 0, 9, 0, 3), (70, 0, 203, 4, 3), (73, 2, 48, 0, 3), (83, 0, 211, 5, 3), (90, 0, 212, 5, 2), (100, 0, 18, 10, 4), (104, 0, 6, 0, 2), (108, 0, 10, 10, 2), (111, 0, 210, 5, 2), (114, 0, 166, 1, 2)]
theorem lX4_ok : ∀ e ∈ lX4, lP RX4 e :=
  fa_cons (p := lP RX4) ⟨fun _ => (show lkOk RX4 52 0 4 2 (yX4_hasText, cX4_hasText, 2, (some .boolean)) from ⟨⟨q114, q941, by decide, by decide, by decide⟩, ⟨q978, q939, ⟨RX4, TX4, 7, rfl, q940⟩, by decide +kernel⟩⟩), fun h => absurd h (by decide)⟩ <|
  fa_cons (p := lP RX4) ⟨fun _ => (show lkOk RX4 56 0 0 2 (yX0_hasPerson, cX0_hasPerson, 2, (some .boolean)) from ⟨⟨q115, q1035, by decide, by decide, by decide⟩, ⟨q1044, q1033, ⟨RX0, TX0, 10, rfl, q1034⟩, by decide +kernel⟩⟩), fun h => absurd h (by decide)⟩ <|
  fa_cons (p := lP RX4) ⟨fun _ => (show lkOk RX4 59 0 0 2 (yX0_hasField, cX0_hasField, 2, (some .boolean)) from ⟨⟨q115, q596, by decide, by decide, by decide⟩, ⟨q1045, q594, ⟨RX0, TX0, 10, rfl, q595⟩, by decide +kernel⟩⟩), fun h => absurd h (by decide)⟩ <|
  fa_cons (p := lP RX4) ⟨fun _ => (show lkOk RX4 66 0 0 3 (yX0_hasRoad, cX0_hasRoad, 3, (some .boolean)) from ⟨⟨q115, q600, by decide, by decide, by decide⟩, ⟨q1046, q598, ⟨RX0, TX0, 10, rfl, q599⟩, by decide +kernel⟩⟩), fun h => absurd h (by decide)⟩ <|
  fa_cons (p := lP RX4) ⟨fun _ => (show lkOk RX4 70 0 4 3 (yX4_canMeet, cX4_canMeet, 3, (some .boolean)) from ⟨⟨q114, q1054, by decide, by decide, by decide⟩, ⟨q1067, q1052, ⟨RX4, TX4, 7, rfl, q1053⟩, by decide +kernel⟩⟩), fun h => absurd h (by decide)⟩ <|
  fa_cons (p := lP RX4) ⟨fun _ => (show lkOk RX4 73 2 0 3 (yX11_isWithin, cX11_isWithin, 3, (some .boolean)) from ⟨⟨q113, q584, by decide, by decide, by decide⟩, ⟨by decide, q583, by decide +kernel⟩⟩), fun h => absurd h (by decide)⟩ <|
  fa_cons (p := lP RX4) ⟨fun _ => (show lkOk RX4 83 0 5 3 (yX5_keep, cX5_keep, 3, none) from ⟨⟨q117, q953, by decide, by decide, by decide⟩, ⟨q950, q951, ⟨RX5, TX5, 4, rfl, q952⟩, by decide +kernel⟩⟩), fun h => absurd h (by decide)⟩ <|
  fa_cons (p := lP RX4) ⟨fun _ => (show lkOk RX4 90 0 5 2 (yX5_takeBack, cX5_takeBack, 2, (some .int)) from ⟨⟨q117, q1117, by decide, by decide, by decide⟩, ⟨q1114, q1115, ⟨RX5, TX5, 4, rfl, q1116⟩, by decide +kernel⟩⟩), fun h => absurd h (by decide)⟩ <|
  fa_cons (p := lP RX4) ⟨fun _ => (show lkOk RX4 100 0 10 4 (yX10_settle, cX10_settle, 4, none) from ⟨⟨q116, q616, by decide, by decide, by decide⟩, ⟨q1118, q614, ⟨RX10, TX10, 15, rfl, q615⟩, by decide +kernel⟩⟩), fun h => absurd h (by decide)⟩ <|
  fa_cons (p := lP RX4) ⟨fun _ => (show lkOk RX4 104 0 0 2 (yX0_copyFrom, cX0_copyFrom, 2, none) from ⟨⟨q115, q1365, by decide, by decide, by decide⟩, ⟨q1362, q1363, ⟨RX0, TX0, 10, rfl, q1364⟩, by decide +kernel⟩⟩), fun h => absurd h (by decide)⟩ <|
  fa_cons (p := lP RX4) ⟨fun _ => (show lkOk RX4 108 0 10 2 (yX10_copyFrom, cX10_copyFrom, 2, none) from ⟨⟨q116, q957, by decide, by decide, by decide⟩, ⟨q1367, q955, ⟨RX10, TX10, 15, rfl, q956⟩, by decide +kernel⟩⟩), fun h => absurd h (by decide)⟩ <|
  fa_cons (p := lP RX4) ⟨fun _ => (show lkOk RX4 111 0 5 2 (yX5_copyFrom, cX5_copyFrom, 3, none) from ⟨⟨q117, q1371, by decide, by decide, by decide⟩, ⟨q1368, q1369, ⟨RX5, TX5, 4, rfl, q1370⟩, by decide +kernel⟩⟩), fun h => absurd h (by decide)⟩ <|
  fa_cons (p := lP RX4) ⟨fun _ => (show lkOk RX4 114 0 1 2 (yX1_copyFrom, cX1_copyFrom, 3, none) from ⟨⟨q118, q1375, by decide, by decide, by decide⟩, ⟨q1372, q1373, ⟨RX1, TX1, 11, rfl, q1374⟩, by decide +kernel⟩⟩), fun h => absurd h (by decide)⟩ <|
  fa_nil
def lX5 : List (Nat × Nat × Nat × Nat × Nat) := [(26, 0, 10, 10, 2), (33, 1, 2, 0, 2)]
theorem lX5_ok : ∀ e ∈ lX5, lP RX5 e :=
  fa_cons (p := lP RX5) ⟨fun _ => (show lkOk RX5 26 0 10 2 (yX10_copyFrom, cX10_copyFrom, 2, none) from ⟨⟨q116, q957, by decide, by decide, by decide⟩, ⟨q954, q955, ⟨RX10, TX10, 15, rfl, q956⟩, by decide +kernel⟩⟩), fun h => absurd h (by decide)⟩ <|
  fa_cons (p := lP RX5) ⟨fun _ => (show lkOk RX5 33 1 0 2 (yJ9_min_7cf53, cJ9_min_7cf53, 2, (some .int)) from ⟨⟨q130, q781, by decide, by decide, by decide⟩, ⟨q961, q780, by decide +kernel⟩⟩), fun h => absurd h (by decide)⟩ <|
  fa_nil
def lX6 : List (Nat × Nat × Nat × Nat × Nat) := [(31, 1, 220, 0, 1), (35, 0, 216, 6, 2), (39, 1, 219, 0, 1), (42, 0, 213, 6, 2), (45, 0, 214, 6, 2), (48, 0, 215, 6, 3), (52, 0, 221, 6, 3), (56, 1, 2, 0, 2), (77, 2, 48, 0, 3)]
theorem lX6_ok : ∀ e ∈ lX6, lP RX6 e :=
  fa_cons (p := lP RX6) ⟨fun _ => (show lkOk RX6 31 1 0 1 (yX6_isLetter, cX6_isLetter, 1, (some .boolean)) from ⟨⟨q119, q709, by decide, by decide, by decide⟩, ⟨q707, q708, by decide +kernel⟩⟩), fun h => absurd h (by decide)⟩ <|
  fa_cons (p := lP RX6) ⟨fun _ => (show lkOk RX6 35 0 6 2 (yX6_addWord, cX6_addWord, 3, (some .int)) from ⟨⟨q119, q714, by decide, by decide, by decide⟩, ⟨q711, q713, ⟨RX6, TX6, 6, rfl, q0⟩, by decide +kernel⟩⟩), fun h => absurd h (by decide)⟩ <|
  fa_cons (p := lP RX6) ⟨fun _ => (show lkOk RX6 39 1 0 1 (yX6_isDigit, cX6_isDigit, 1, (some .boolean)) from ⟨⟨q119, q774, by decide, by decide, by decide⟩, ⟨q772, q773, by decide +kernel⟩⟩), fun h => absurd h (by decide)⟩ <|
  fa_cons (p := lP RX6) ⟨fun _ => (show lkOk RX6 42 0 6 2 (yX6_addNumber, cX6_addNumber, 4, (some .int)) from ⟨⟨q119, q778, by decide, by decide, by decide⟩, ⟨q775, q777, ⟨RX6, TX6, 6, rfl, q3⟩, by decide +kernel⟩⟩), fun h => absurd h (by decide)⟩ <|
  fa_cons (p := lP RX6) ⟨fun _ => (show lkOk RX6 45 0 6 2 (yX6_addSign, cX6_addSign, 5, (some .int)) from ⟨⟨q119, q785, by decide, by decide, by decide⟩, ⟨q782, q784, ⟨RX6, TX6, 6, rfl, q4⟩, by decide +kernel⟩⟩), fun h => absurd h (by decide)⟩ <|
  fa_cons (p := lP RX6) ⟨fun _ => (show lkOk RX6 48 0 6 3 (yX6_addToken, cX6_addToken, 3, none) from ⟨⟨q119, q771, by decide, by decide, by decide⟩, ⟨q768, q770, ⟨RX6, TX6, 6, rfl, q2⟩, by decide +kernel⟩⟩), fun h => absurd h (by decide)⟩ <|
  fa_cons (p := lP RX6) ⟨fun _ => (show lkOk RX6 52 0 6 3 (yX6_wordOf, cX6_wordOf, 8, (some .int)) from ⟨⟨q119, q718, by decide, by decide, by decide⟩, ⟨q715, q717, ⟨RX6, TX6, 6, rfl, q1⟩, by decide +kernel⟩⟩), fun h => absurd h (by decide)⟩ <|
  fa_cons (p := lP RX6) ⟨fun _ => (show lkOk RX6 56 1 0 2 (yJ9_min_7cf53, cJ9_min_7cf53, 2, (some .int)) from ⟨⟨q130, q781, by decide, by decide, by decide⟩, ⟨q779, q780, by decide +kernel⟩⟩), fun h => absurd h (by decide)⟩ <|
  fa_cons (p := lP RX6) ⟨fun _ => (show lkOk RX6 77 2 0 3 (yX11_isWithin, cX11_isWithin, 3, (some .boolean)) from ⟨⟨q113, q584, by decide, by decide, by decide⟩, ⟨by decide, q583, by decide +kernel⟩⟩), fun h => absurd h (by decide)⟩ <|
  fa_nil
def lX7 : List (Nat × Nat × Nat × Nat × Nat) := []
theorem lX7_ok : ∀ e ∈ lX7, lP RX7 e :=
  fa_nil
def lX8 : List (Nat × Nat × Nat × Nat × Nat) := [(34, 0, 226, 8, 4), (38, 0, 9, 0, 3), (51, 0, 227, 8, 2), (55, 1, 2, 0, 2), (61, 1, 1, 0, 2)]
theorem lX8_ok : ∀ e ∈ lX8, lP RX8 e :=
  fa_cons (p := lP RX8) ⟨fun _ => (show lkOk RX8 34 0 8 4 (yX8_nextField, cX8_nextField, 5, (some .int)) from ⟨⟨q123, q1244, by decide, by decide, by decide⟩, ⟨q1241, q1243, ⟨RX8, TX8, 3, rfl, q34⟩, by decide +kernel⟩⟩), fun h => absurd h (by decide)⟩ <|
  fa_cons (p := lP RX8) ⟨fun _ => (show lkOk RX8 38 0 0 3 (yX0_hasRoad, cX0_hasRoad, 3, (some .boolean)) from ⟨⟨q115, q600, by decide, by decide, by decide⟩, ⟨q1245, q598, ⟨RX0, TX0, 10, rfl, q599⟩, by decide +kernel⟩⟩), fun h => absurd h (by decide)⟩ <|
  fa_cons (p := lP RX8) ⟨fun _ => (show lkOk RX8 51 0 8 2 (yX8_widen, cX8_widen, 3, none) from ⟨⟨q123, q1261, by decide, by decide, by decide⟩, ⟨q1258, q1260, ⟨RX8, TX8, 3, rfl, q35⟩, by decide +kernel⟩⟩), fun h => absurd h (by decide)⟩ <|
  fa_cons (p := lP RX8) ⟨fun _ => (show lkOk RX8 55 1 0 2 (yJ9_min_7cf53, cJ9_min_7cf53, 2, (some .int)) from ⟨⟨q130, q781, by decide, by decide, by decide⟩, ⟨q1262, q780, by decide +kernel⟩⟩), fun h => absurd h (by decide)⟩ <|
  fa_cons (p := lP RX8) ⟨fun _ => (show lkOk RX8 61 1 0 2 (yJ9_max_7cf53, cJ9_max_7cf53, 2, (some .int)) from ⟨⟨q130, q804, by decide, by decide, by decide⟩, ⟨q1263, q803, by decide +kernel⟩⟩), fun h => absurd h (by decide)⟩ <|
  fa_nil
def lX9 : List (Nat × Nat × Nat × Nat × Nat) := [(43, 0, 236, 9, 3), (61, 0, 234, 9, 3), (69, 0, 230, 9, 3), (72, 0, 22, 10, 2), (79, 1, 0, 0, 1), (91, 0, 231, 9, 6), (95, 2, 26, 0, 3), (99, 1, 2, 0, 2), (108, 0, 21, 10, 4), (133, 0, 208, 4, 1), (137, 0, 222, 7, 2), (162, 0, 235, 9, 5), (166, 1, 229, 0, 1)]
theorem lX9_ok : ∀ e ∈ lX9, lP RX9 e :=
  fa_cons (p := lP RX9) ⟨fun _ => (show lkOk RX9 43 0 9 3 (yX9_sweatOf, cX9_sweatOf, 4, (some .int)) from ⟨⟨q121, q969, by decide, by decide, by decide⟩, ⟨q966, q967, ⟨RX9, TX9, 10, rfl, q968⟩, by decide +kernel⟩⟩), fun h => absurd h (by decide)⟩ <|
  fa_cons (p := lP RX9) ⟨fun _ => (show lkOk RX9 61 0 9 3 (yX9_rainFrom, cX9_rainFrom, 8, none) from ⟨⟨q121, q1008, by decide, by decide, by decide⟩, ⟨q1005, q1007, ⟨RX9, TX9, 10, rfl, q24⟩, by decide +kernel⟩⟩), fun h => absurd h (by decide)⟩ <|
  fa_cons (p := lP RX9) ⟨fun _ => (show lkOk RX9 69 0 9 3 (yX9_closeHour, cX9_closeHour, 6, none) from ⟨⟨q121, q1017, by decide, by decide, by decide⟩, ⟨q1014, q1016, ⟨RX9, TX9, 10, rfl, q25⟩, by decide +kernel⟩⟩), fun h => absurd h (by decide)⟩ <|
  fa_cons (p := lP RX9) ⟨fun _ => (show lkOk RX9 72 0 10 2 (yX10_writeWhere, cX10_writeWhere, 4, none) from ⟨⟨q116, q1021, by decide, by decide, by decide⟩, ⟨q1018, q1019, ⟨RX10, TX10, 15, rfl, q1020⟩, by decide +kernel⟩⟩), fun h => absurd h (by decide)⟩ <|
  fa_cons (p := lP RX9) ⟨fun _ => (show lkOk RX9 79 1 0 1 (yJ6_bitCount_0f7a4, cJ6_bitCount_0f7a4, 1, (some .int)) from ⟨⟨q133, q1024, by decide, by decide, by decide⟩, ⟨q1022, q1023, by decide +kernel⟩⟩), fun h => absurd h (by decide)⟩ <|
  fa_cons (p := lP RX9) ⟨fun _ => (show lkOk RX9 91 0 9 6 (yX9_law, cX9_law, 10, (some .int)) from ⟨⟨q121, q973, by decide, by decide, by decide⟩, ⟨q970, q972, ⟨RX9, TX9, 10, rfl, q21⟩, by decide +kernel⟩⟩), fun h => absurd h (by decide)⟩ <|
  fa_cons (p := lP RX9) ⟨fun _ => (show lkOk RX9 95 2 0 3 (yX11_bring, cX11_bring, 3, (some .int)) from ⟨⟨q113, q1001, by decide, by decide, by decide⟩, ⟨by decide, q1000, by decide +kernel⟩⟩), fun h => absurd h (by decide)⟩ <|
  fa_cons (p := lP RX9) ⟨fun _ => (show lkOk RX9 99 1 0 2 (yJ9_min_7cf53, cJ9_min_7cf53, 2, (some .int)) from ⟨⟨q130, q781, by decide, by decide, by decide⟩, ⟨q1004, q780, by decide +kernel⟩⟩), fun h => absurd h (by decide)⟩ <|
  fa_cons (p := lP RX9) ⟨fun _ => (show lkOk RX9 108 0 10 4 (yX10_writeRain, cX10_writeRain, 4, none) from ⟨⟨q116, q1012, by decide, by decide, by decide⟩, ⟨q1009, q1010, ⟨RX10, TX10, 15, rfl, q1011⟩, by decide +kernel⟩⟩), fun h => absurd h (by decide)⟩ <|
  fa_cons (p := lP RX9) ⟨fun _ => (show lkOk RX9 133 0 4 1 (yX4_rules, cX4_rules, 1, (some (.object "OwnRain$Text"))) from ⟨⟨q114, q977, by decide, by decide, by decide⟩, ⟨q974, q975, ⟨RX4, TX4, 7, rfl, q976⟩, by decide +kernel⟩⟩), fun h => absurd h (by decide)⟩ <|
  fa_cons (p := lP RX9) ⟨fun _ => (show lkOk RX9 137 0 7 2 (yX7_hasLaw, cX7_hasLaw, 2, (some .boolean)) from ⟨⟨q125, q855, by decide, by decide, by decide⟩, ⟨q979, q853, ⟨RX7, TX7, 13, rfl, q854⟩, by decide +kernel⟩⟩), fun h => absurd h (by decide)⟩ <|
  fa_cons (p := lP RX9) ⟨fun _ => (show lkOk RX9 162 0 9 5 (yX9_run, cX9_run, 9, (some .int)) from ⟨⟨q121, q983, by decide, by decide, by decide⟩, ⟨q980, q982, ⟨RX9, TX9, 10, rfl, q22⟩, by decide +kernel⟩⟩), fun h => absurd h (by decide)⟩ <|
  fa_cons (p := lP RX9) ⟨fun _ => (show lkOk RX9 166 1 0 1 (yX9_bounded, cX9_bounded, 2, (some .int)) from ⟨⟨q121, q994, by decide, by decide, by decide⟩, ⟨q992, q993, by decide +kernel⟩⟩), fun h => absurd h (by decide)⟩ <|
  fa_nil
def lX10 : List (Nat × Nat × Nat × Nat × Nat) := [(40, 9, 0, 0, 0), (64, 1, 2, 0, 2), (70, 0, 13, 10, 2)]
theorem lX10_ok : ∀ e ∈ lX10, lP RX10 e :=
  fa_cons (p := lP RX10) ⟨fun h => absurd h (by decide), fun _ => q958⟩ <|
  fa_cons (p := lP RX10) ⟨fun _ => (show lkOk RX10 64 1 0 2 (yJ9_min_7cf53, cJ9_min_7cf53, 2, (some .int)) from ⟨⟨q130, q781, by decide, by decide, by decide⟩, ⟨q1013, q780, by decide +kernel⟩⟩), fun h => absurd h (by decide)⟩ <|
  fa_cons (p := lP RX10) ⟨fun _ => (show lkOk RX10 70 0 10 2 (yX10_rain, cX10_rain, 2, (some .int)) from ⟨⟨q116, q1147, by decide, by decide, by decide⟩, ⟨q1144, q1146, ⟨RX10, TX10, 15, rfl, q28⟩, by decide +kernel⟩⟩), fun h => absurd h (by decide)⟩ <|
  fa_nil
def lX11 : List (Nat × Nat × Nat × Nat × Nat) := [(64, 1, 48, 0, 3), (74, 0, 3, 0, 4), (78, 0, 7, 0, 2), (82, 0, 9, 0, 3), (86, 0, 5, 0, 3), (93, 0, 4, 0, 5), (101, 0, 18, 10, 4), (110, 0, 217, 6, 2), (117, 0, 200, 3, 1), (121, 0, 201, 4, 2), (131, 0, 206, 4, 2), (140, 0, 207, 4, 1), (143, 0, 233, 9, 2), (147, 0, 8, 0, 2), (154, 0, 202, 4, 3), (160, 0, 203, 4, 3), (163, 0, 232, 9, 4), (170, 0, 204, 4, 4), (173, 0, 19, 10, 4), (194, 0, 28, 11, 3), (201, 0, 36, 11, 4), (204, 0, 62, 11, 3), (207, 0, 57, 11, 5), (210, 0, 71, 11, 3), (212, 0, 41, 11, 3), (215, 0, 63, 11, 3), (219, 0, 65, 11, 4), (222, 0, 60, 11, 3), (225, 1, 2, 0, 2), (230, 0, 44, 11, 2), (236, 0, 31, 11, 1), (240, 1, 1, 0, 2), (243, 0, 11, 10, 1), (246, 0, 209, 4, 1), (264, 0, 12, 10, 3), (276, 0, 236, 9, 3), (280, 0, 20, 10, 3), (286, 0, 17, 10, 2), (289, 0, 16, 10, 2), (292, 0, 15, 10, 2), (295, 0, 14, 10, 2), (298, 0, 172, 2, 2), (302, 0, 171, 2, 3), (305, 0, 179, 2, 3), (314, 1, 0, 0, 1), (319, 1, 47, 0, 2), (322, 0, 170, 2, 3), (325, 1, 46, 0, 2), (331, 0, 225, 8, 3), (337, 0, 224, 8, 4), (340, 0, 228, 8, 3), (352, 0, 164, 1, 4), (355, 0, 53, 11, 2), (369, 1, 43, 0, 2), (373, 1, 29, 0, 2), (380, 0, 163, 1, 3), (384, 0, 168, 1, 2), (387, 0, 167, 1, 2), (393, 0, 165, 1, 4), (397, 0, 169, 1, 2), (400, 0, 175, 2, 2), (409, 0, 205, 4, 2)]
theorem lX11_ok : ∀ e ∈ lX11, lP RX11 e :=
  fa_cons (p := lP RX11) ⟨fun _ => (show lkOk RX11 64 1 0 3 (yX11_isWithin, cX11_isWithin, 3, (some .boolean)) from ⟨⟨q113, q584, by decide, by decide, by decide⟩, ⟨q582, q583, by decide +kernel⟩⟩), fun h => absurd h (by decide)⟩ <|
  fa_cons (p := lP RX11) ⟨fun _ => (show lkOk RX11 74 0 0 4 (yX0_addField, cX0_addField, 4, (some .int)) from ⟨⟨q115, q588, by decide, by decide, by decide⟩, ⟨q585, q586, ⟨RX0, TX0, 10, rfl, q587⟩, by decide +kernel⟩⟩), fun h => absurd h (by decide)⟩ <|
  fa_cons (p := lP RX11) ⟨fun _ => (show lkOk RX11 78 0 0 2 (yX0_hasField, cX0_hasField, 2, (some .boolean)) from ⟨⟨q115, q596, by decide, by decide, by decide⟩, ⟨q593, q594, ⟨RX0, TX0, 10, rfl, q595⟩, by decide +kernel⟩⟩), fun h => absurd h (by decide)⟩ <|
  fa_cons (p := lP RX11) ⟨fun _ => (show lkOk RX11 82 0 0 3 (yX0_hasRoad, cX0_hasRoad, 3, (some .boolean)) from ⟨⟨q115, q600, by decide, by decide, by decide⟩, ⟨q597, q598, ⟨RX0, TX0, 10, rfl, q599⟩, by decide +kernel⟩⟩), fun h => absurd h (by decide)⟩ <|
  fa_cons (p := lP RX11) ⟨fun _ => (show lkOk RX11 86 0 0 3 (yX0_addRoad, cX0_addRoad, 3, none) from ⟨⟨q115, q604, by decide, by decide, by decide⟩, ⟨q601, q602, ⟨RX0, TX0, 10, rfl, q603⟩, by decide +kernel⟩⟩), fun h => absurd h (by decide)⟩ <|
  fa_cons (p := lP RX11) ⟨fun _ => (show lkOk RX11 93 0 0 5 (yX0_addPerson, cX0_addPerson, 5, (some .int)) from ⟨⟨q115, q612, by decide, by decide, by decide⟩, ⟨q609, q610, ⟨RX0, TX0, 10, rfl, q611⟩, by decide +kernel⟩⟩), fun h => absurd h (by decide)⟩ <|
  fa_cons (p := lP RX11) ⟨fun _ => (show lkOk RX11 101 0 10 4 (yX10_settle, cX10_settle, 4, none) from ⟨⟨q116, q616, by decide, by decide, by decide⟩, ⟨q613, q614, ⟨RX10, TX10, 15, rfl, q615⟩, by decide +kernel⟩⟩), fun h => absurd h (by decide)⟩ <|
  fa_cons (p := lP RX11) ⟨fun _ => (show lkOk RX11 110 0 6 2 (yX6_append, cX6_append, 3, none) from ⟨⟨q119, q624, by decide, by decide, by decide⟩, ⟨q621, q622, ⟨RX6, TX6, 6, rfl, q623⟩, by decide +kernel⟩⟩), fun h => absurd h (by decide)⟩ <|
  fa_cons (p := lP RX11) ⟨fun _ => (show lkOk RX11 117 0 3 1 (yX3_readTape, cX3_readTape, 2, (some (.object "OwnRain$Text"))) from ⟨⟨q120, q636, by decide, by decide, by decide⟩, ⟨q633, q634, ⟨RX3, TX3, 7, rfl, q635⟩, by decide +kernel⟩⟩), fun h => absurd h (by decide)⟩ <|
  fa_cons (p := lP RX11) ⟨fun _ => (show lkOk RX11 121 0 4 2 (yX4_addText, cX4_addText, 2, (some .int)) from ⟨⟨q114, q928, by decide, by decide, by decide⟩, ⟨q925, q926, ⟨RX4, TX4, 7, rfl, q927⟩, by decide +kernel⟩⟩), fun h => absurd h (by decide)⟩ <|
  fa_cons (p := lP RX11) ⟨fun _ => (show lkOk RX11 131 0 4 2 (yX4_hasText, cX4_hasText, 2, (some .boolean)) from ⟨⟨q114, q941, by decide, by decide, by decide⟩, ⟨q938, q939, ⟨RX4, TX4, 7, rfl, q940⟩, by decide +kernel⟩⟩), fun h => absurd h (by decide)⟩ <|
  fa_cons (p := lP RX11) ⟨fun _ => (show lkOk RX11 140 0 4 1 (yX4_keepStep, cX4_keepStep, 1, none) from ⟨⟨q114, q949, by decide, by decide, by decide⟩, ⟨q946, q947, ⟨RX4, TX4, 7, rfl, q948⟩, by decide +kernel⟩⟩), fun h => absurd h (by decide)⟩ <|
  fa_cons (p := lP RX11) ⟨fun _ => (show lkOk RX11 143 0 9 2 (yX9_pass, cX9_pass, 4, (some .int)) from ⟨⟨q121, q965, by decide, by decide, by decide⟩, ⟨q962, q963, ⟨RX9, TX9, 10, rfl, q964⟩, by decide +kernel⟩⟩), fun h => absurd h (by decide)⟩ <|
  fa_cons (p := lP RX11) ⟨fun _ => (show lkOk RX11 147 0 0 2 (yX0_hasPerson, cX0_hasPerson, 2, (some .boolean)) from ⟨⟨q115, q1035, by decide, by decide, by decide⟩, ⟨q1032, q1033, ⟨RX0, TX0, 10, rfl, q1034⟩, by decide +kernel⟩⟩), fun h => absurd h (by decide)⟩ <|
  fa_cons (p := lP RX11) ⟨fun _ => (show lkOk RX11 154 0 4 3 (yX4_canGo, cX4_canGo, 3, (some .boolean)) from ⟨⟨q114, q1043, by decide, by decide, by decide⟩, ⟨q1040, q1041, ⟨RX4, TX4, 7, rfl, q1042⟩, by decide +kernel⟩⟩), fun h => absurd h (by decide)⟩ <|
  fa_cons (p := lP RX11) ⟨fun _ => (show lkOk RX11 160 0 4 3 (yX4_canMeet, cX4_canMeet, 3, (some .boolean)) from ⟨⟨q114, q1054, by decide, by decide, by decide⟩, ⟨q1051, q1052, ⟨RX4, TX4, 7, rfl, q1053⟩, by decide +kernel⟩⟩), fun h => absurd h (by decide)⟩ <|
  fa_cons (p := lP RX11) ⟨fun _ => (show lkOk RX11 163 0 9 4 (yX9_merge, cX9_merge, 5, none) from ⟨⟨q121, q1058, by decide, by decide, by decide⟩, ⟨q1055, q1056, ⟨RX9, TX9, 10, rfl, q1057⟩, by decide +kernel⟩⟩), fun h => absurd h (by decide)⟩ <|
  fa_cons (p := lP RX11) ⟨fun _ => (show lkOk RX11 170 0 4 4 (yX4_canTake, cX4_canTake, 4, (some .boolean)) from ⟨⟨q114, q1066, by decide, by decide, by decide⟩, ⟨q1063, q1064, ⟨RX4, TX4, 7, rfl, q1065⟩, by decide +kernel⟩⟩), fun h => absurd h (by decide)⟩ <|
  fa_cons (p := lP RX11) ⟨fun _ => (show lkOk RX11 173 0 10 4 (yX10_take, cX10_take, 4, none) from ⟨⟨q116, q1072, by decide, by decide, by decide⟩, ⟨q1069, q1070, ⟨RX10, TX10, 15, rfl, q1071⟩, by decide +kernel⟩⟩), fun h => absurd h (by decide)⟩ <|
  fa_cons (p := lP RX11) ⟨fun _ => (show lkOk RX11 194 0 11 3 (yX11_canDo, cX11_canDo, 7, (some .boolean)) from ⟨⟨q113, q1084, by decide, by decide, by decide⟩, ⟨q1081, q1083, ⟨RX11, TX11, 7, rfl, q26⟩, by decide +kernel⟩⟩), fun h => absurd h (by decide)⟩ <|
  fa_cons (p := lP RX11) ⟨fun _ => (show lkOk RX11 201 0 11 4 (yX11_field, cX11_field, 6, (some .int)) from ⟨⟨q113, q581, by decide, by decide, by decide⟩, ⟨q1085, q579, ⟨RX11, TX11, 7, rfl, q580⟩, by decide +kernel⟩⟩), fun h => absurd h (by decide)⟩ <|
  fa_cons (p := lP RX11) ⟨fun _ => (show lkOk RX11 204 0 11 3 (yX11_road, cX11_road, 4, (some .boolean)) from ⟨⟨q113, q592, by decide, by decide, by decide⟩, ⟨q1086, q590, ⟨RX11, TX11, 7, rfl, q591⟩, by decide +kernel⟩⟩), fun h => absurd h (by decide)⟩ <|
  fa_cons (p := lP RX11) ⟨fun _ => (show lkOk RX11 207 0 11 5 (yX11_person, cX11_person, 8, (some .int)) from ⟨⟨q113, q608, by decide, by decide, by decide⟩, ⟨q1087, q606, ⟨RX11, TX11, 7, rfl, q607⟩, by decide +kernel⟩⟩), fun h => absurd h (by decide)⟩ <|
  fa_cons (p := lP RX11) ⟨fun _ => (show lkOk RX11 210 0 11 3 (yX11_work, cX11_work, 3, (some .boolean)) from ⟨⟨q113, q1031, by decide, by decide, by decide⟩, ⟨q1088, q1029, ⟨RX11, TX11, 7, rfl, q1030⟩, by decide +kernel⟩⟩), fun h => absurd h (by decide)⟩ <|
  fa_cons (p := lP RX11) ⟨fun _ => (show lkOk RX11 212 0 11 3 (yX11_go, cX11_go, 3, (some .boolean)) from ⟨⟨q113, q1039, by decide, by decide, by decide⟩, ⟨q1089, q1037, ⟨RX11, TX11, 7, rfl, q1038⟩, by decide +kernel⟩⟩), fun h => absurd h (by decide)⟩ <|
  fa_cons (p := lP RX11) ⟨fun _ => (show lkOk RX11 215 0 11 3 (yX11_shake, cX11_shake, 3, (some .int)) from ⟨⟨q113, q1050, by decide, by decide, by decide⟩, ⟨q1090, q1048, ⟨RX11, TX11, 7, rfl, q1049⟩, by decide +kernel⟩⟩), fun h => absurd h (by decide)⟩ <|
  fa_cons (p := lP RX11) ⟨fun _ => (show lkOk RX11 219 0 11 4 (yX11_steal, cX11_steal, 4, (some .int)) from ⟨⟨q113, q1062, by decide, by decide, by decide⟩, ⟨q1091, q1060, ⟨RX11, TX11, 7, rfl, q1061⟩, by decide +kernel⟩⟩), fun h => absurd h (by decide)⟩ <|
  fa_cons (p := lP RX11) ⟨fun _ => (show lkOk RX11 222 0 11 3 (yX11_pour, cX11_pour, 4, (some .int)) from ⟨⟨q113, q1076, by decide, by decide, by decide⟩, ⟨q1092, q1074, ⟨RX11, TX11, 7, rfl, q1075⟩, by decide +kernel⟩⟩), fun h => absurd h (by decide)⟩ <|
  fa_cons (p := lP RX11) ⟨fun _ => (show lkOk RX11 225 1 0 2 (yJ9_min_7cf53, cJ9_min_7cf53, 2, (some .int)) from ⟨⟨q130, q781, by decide, by decide, by decide⟩, ⟨q1002, q780, by decide +kernel⟩⟩), fun h => absurd h (by decide)⟩ <|
  fa_cons (p := lP RX11) ⟨fun _ => (show lkOk RX11 230 0 11 2 (yX11_hour, cX11_hour, 4, (some .int)) from ⟨⟨q113, q945, by decide, by decide, by decide⟩, ⟨q1093, q943, ⟨RX11, TX11, 7, rfl, q944⟩, by decide +kernel⟩⟩), fun h => absurd h (by decide)⟩ <|
  fa_cons (p := lP RX11) ⟨fun _ => (show lkOk RX11 236 0 11 1 (yX11_draw, cX11_draw, 9, (some .int)) from ⟨⟨q113, q1101, by decide, by decide, by decide⟩, ⟨q1098, q1100, ⟨RX11, TX11, 7, rfl, q27⟩, by decide +kernel⟩⟩), fun h => absurd h (by decide)⟩ <|
  fa_cons (p := lP RX11) ⟨fun _ => (show lkOk RX11 240 1 0 2 (yJ9_max_7cf53, cJ9_max_7cf53, 2, (some .int)) from ⟨⟨q130, q804, by decide, by decide, by decide⟩, ⟨q1003, q803, by decide +kernel⟩⟩), fun h => absurd h (by decide)⟩ <|
  fa_cons (p := lP RX11) ⟨fun _ => (show lkOk RX11 243 0 10 1 (yX10_drawAnew, cX10_drawAnew, 1, none) from ⟨⟨q116, q1105, by decide, by decide, by decide⟩, ⟨q1102, q1103, ⟨RX10, TX10, 15, rfl, q1104⟩, by decide +kernel⟩⟩), fun h => absurd h (by decide)⟩ <|
  fa_cons (p := lP RX11) ⟨fun _ => (show lkOk RX11 246 0 4 1 (yX4_takeBack, cX4_takeBack, 3, (some .int)) from ⟨⟨q114, q1113, by decide, by decide, by decide⟩, ⟨q1110, q1111, ⟨RX4, TX4, 7, rfl, q1112⟩, by decide +kernel⟩⟩), fun h => absurd h (by decide)⟩ <|
  fa_cons (p := lP RX11) ⟨fun _ => (show lkOk RX11 264 0 10 3 (yX10_peopleOn, cX10_peopleOn, 5, (some .int)) from ⟨⟨q116, q1126, by decide, by decide, by decide⟩, ⟨q1123, q1124, ⟨RX10, TX10, 15, rfl, q1125⟩, by decide +kernel⟩⟩), fun h => absurd h (by decide)⟩ <|
  fa_cons (p := lP RX11) ⟨fun _ => (show lkOk RX11 276 0 9 3 (yX9_sweatOf, cX9_sweatOf, 4, (some .int)) from ⟨⟨q121, q969, by decide, by decide, by decide⟩, ⟨q1131, q967, ⟨RX9, TX9, 10, rfl, q968⟩, by decide +kernel⟩⟩), fun h => absurd h (by decide)⟩ <|
  fa_cons (p := lP RX11) ⟨fun _ => (show lkOk RX11 280 0 10 3 (yX10_whereWas, cX10_whereWas, 4, (some .int)) from ⟨⟨q116, q1135, by decide, by decide, by decide⟩, ⟨q1132, q1133, ⟨RX10, TX10, 15, rfl, q1134⟩, by decide +kernel⟩⟩), fun h => absurd h (by decide)⟩ <|
  fa_cons (p := lP RX11) ⟨fun _ => (show lkOk RX11 286 0 10 2 (yX10_rainPerson, cX10_rainPerson, 2, (some .int)) from ⟨⟨q116, q1143, by decide, by decide, by decide⟩, ⟨q1140, q1141, ⟨RX10, TX10, 15, rfl, q1142⟩, by decide +kernel⟩⟩), fun h => absurd h (by decide)⟩ <|
  fa_cons (p := lP RX11) ⟨fun _ => (show lkOk RX11 289 0 10 2 (yX10_rainHour, cX10_rainHour, 2, (some .int)) from ⟨⟨q116, q1151, by decide, by decide, by decide⟩, ⟨q1148, q1149, ⟨RX10, TX10, 15, rfl, q1150⟩, by decide +kernel⟩⟩), fun h => absurd h (by decide)⟩ <|
  fa_cons (p := lP RX11) ⟨fun _ => (show lkOk RX11 292 0 10 2 (yX10_rainField, cX10_rainField, 2, (some .int)) from ⟨⟨q116, q1155, by decide, by decide, by decide⟩, ⟨q1152, q1153, ⟨RX10, TX10, 15, rfl, q1154⟩, by decide +kernel⟩⟩), fun h => absurd h (by decide)⟩ <|
  fa_cons (p := lP RX11) ⟨fun _ => (show lkOk RX11 295 0 10 2 (yX10_rainDrops, cX10_rainDrops, 2, (some .int)) from ⟨⟨q116, q1159, by decide, by decide, by decide⟩, ⟨q1156, q1157, ⟨RX10, TX10, 15, rfl, q1158⟩, by decide +kernel⟩⟩), fun h => absurd h (by decide)⟩ <|
  fa_cons (p := lP RX11) ⟨fun _ => (show lkOk RX11 298 0 2 2 (yX2_foretell, cX2_foretell, 4, (some (.object "OwnRain$World"))) from ⟨⟨q122, q1167, by decide, by decide, by decide⟩, ⟨q1164, q1165, ⟨RX2, TX2, 10, rfl, q1166⟩, by decide +kernel⟩⟩), fun h => absurd h (by decide)⟩ <|
  fa_cons (p := lP RX11) ⟨fun _ => (show lkOk RX11 302 0 2 3 (yX2_firstRain, cX2_firstRain, 5, (some .int)) from ⟨⟨q122, q1181, by decide, by decide, by decide⟩, ⟨q1178, q1179, ⟨RX2, TX2, 10, rfl, q1180⟩, by decide +kernel⟩⟩), fun h => absurd h (by decide)⟩ <|
  fa_cons (p := lP RX11) ⟨fun _ => (show lkOk RX11 305 0 2 3 (yX2_planWork, cX2_planWork, 3, none) from ⟨⟨q122, q1192, by decide, by decide, by decide⟩, ⟨q1189, q1190, ⟨RX2, TX2, 10, rfl, q1191⟩, by decide +kernel⟩⟩), fun h => absurd h (by decide)⟩ <|
  fa_cons (p := lP RX11) ⟨fun _ => (show lkOk RX11 314 1 0 1 (yJ6_bitCount_0f7a4, cJ6_bitCount_0f7a4, 1, (some .int)) from ⟨⟨q133, q1024, by decide, by decide, by decide⟩, ⟨q1202, q1023, by decide +kernel⟩⟩), fun h => absurd h (by decide)⟩ <|
  fa_cons (p := lP RX11) ⟨fun _ => (show lkOk RX11 319 1 0 2 (yX11_isSet, cX11_isSet, 2, (some .boolean)) from ⟨⟨q113, q1205, by decide, by decide, by decide⟩, ⟨q1203, q1204, by decide +kernel⟩⟩), fun h => absurd h (by decide)⟩ <|
  fa_cons (p := lP RX11) ⟨fun _ => (show lkOk RX11 322 0 2 3 (yX2_assign, cX2_assign, 5, (some .int)) from ⟨⟨q122, q1209, by decide, by decide, by decide⟩, ⟨q1206, q1207, ⟨RX2, TX2, 10, rfl, q1208⟩, by decide +kernel⟩⟩), fun h => absurd h (by decide)⟩ <|
  fa_cons (p := lP RX11) ⟨fun _ => (show lkOk RX11 325 1 0 2 (yX11_isOf, cX11_isOf, 2, (some .boolean)) from ⟨⟨q113, q1184, by decide, by decide, by decide⟩, ⟨q1228, q1183, by decide +kernel⟩⟩), fun h => absurd h (by decide)⟩ <|
  fa_cons (p := lP RX11) ⟨fun _ => (show lkOk RX11 331 0 8 3 (yX8_measure, cX8_measure, 6, none) from ⟨⟨q123, q1240, by decide, by decide, by decide⟩, ⟨q1237, q1238, ⟨RX8, TX8, 3, rfl, q1239⟩, by decide +kernel⟩⟩), fun h => absurd h (by decide)⟩ <|
  fa_cons (p := lP RX11) ⟨fun _ => (show lkOk RX11 337 0 8 4 (yX8_comeTo, cX8_comeTo, 6, (some .int)) from ⟨⟨q123, q1249, by decide, by decide, by decide⟩, ⟨q1246, q1247, ⟨RX8, TX8, 3, rfl, q1248⟩, by decide +kernel⟩⟩), fun h => absurd h (by decide)⟩ <|
  fa_cons (p := lP RX11) ⟨fun _ => (show lkOk RX11 340 0 8 3 (yX8_width, cX8_width, 6, (some .int)) from ⟨⟨q123, q1257, by decide, by decide, by decide⟩, ⟨q1254, q1255, ⟨RX8, TX8, 3, rfl, q1256⟩, by decide +kernel⟩⟩), fun h => absurd h (by decide)⟩ <|
  fa_cons (p := lP RX11) ⟨fun _ => (show lkOk RX11 352 0 1 4 (yX1_addMissing, cX1_addMissing, 4, (some .int)) from ⟨⟨q118, q1271, by decide, by decide, by decide⟩, ⟨q1268, q1269, ⟨RX1, TX1, 11, rfl, q1270⟩, by decide +kernel⟩⟩), fun h => absurd h (by decide)⟩ <|
  fa_cons (p := lP RX11) ⟨fun _ => (show lkOk RX11 355 0 11 2 (yX11_nearOnes, cX11_nearOnes, 10, (some .int)) from ⟨⟨q113, q1279, by decide, by decide, by decide⟩, ⟨q1276, q1278, ⟨RX11, TX11, 7, rfl, q36⟩, by decide +kernel⟩⟩), fun h => absurd h (by decide)⟩ <|
  fa_cons (p := lP RX11) ⟨fun _ => (show lkOk RX11 369 1 0 2 (yX11_hotHours, cX11_hotHours, 5, (some (.array .long))) from ⟨⟨q113, q1291, by decide, by decide, by decide⟩, ⟨q1289, q1290, by decide +kernel⟩⟩), fun h => absurd h (by decide)⟩ <|
  fa_cons (p := lP RX11) ⟨fun _ => (show lkOk RX11 373 1 0 2 (yX11_commonDivisor, cX11_commonDivisor, 11, (some .long)) from ⟨⟨q113, q1294, by decide, by decide, by decide⟩, ⟨q1292, q1293, by decide +kernel⟩⟩), fun h => absurd h (by decide)⟩ <|
  fa_cons (p := lP RX11) ⟨fun _ => (show lkOk RX11 380 0 1 3 (yX1_addForecast, cX1_addForecast, 3, (some .int)) from ⟨⟨q118, q1303, by decide, by decide, by decide⟩, ⟨q1300, q1301, ⟨RX1, TX1, 11, rfl, q1302⟩, by decide +kernel⟩⟩), fun h => absurd h (by decide)⟩ <|
  fa_cons (p := lP RX11) ⟨fun _ => (show lkOk RX11 384 0 1 2 (yX1_misses, cX1_misses, 4, (some .int)) from ⟨⟨q118, q1311, by decide, by decide, by decide⟩, ⟨q1308, q1309, ⟨RX1, TX1, 11, rfl, q1310⟩, by decide +kernel⟩⟩), fun h => absurd h (by decide)⟩ <|
  fa_cons (p := lP RX11) ⟨fun _ => (show lkOk RX11 387 0 1 2 (yX1_falseAlarms, cX1_falseAlarms, 4, (some .int)) from ⟨⟨q118, q1315, by decide, by decide, by decide⟩, ⟨q1312, q1313, ⟨RX1, TX1, 11, rfl, q1314⟩, by decide +kernel⟩⟩), fun h => absurd h (by decide)⟩ <|
  fa_cons (p := lP RX11) ⟨fun _ => (show lkOk RX11 393 0 1 4 (yX1_addOffer, cX1_addOffer, 4, (some .int)) from ⟨⟨q118, q1327, by decide, by decide, by decide⟩, ⟨q1324, q1325, ⟨RX1, TX1, 11, rfl, q1326⟩, by decide +kernel⟩⟩), fun h => absurd h (by decide)⟩ <|
  fa_cons (p := lP RX11) ⟨fun _ => (show lkOk RX11 397 0 1 2 (yX1_traded, cX1_traded, 5, (some .int)) from ⟨⟨q118, q1335, by decide, by decide, by decide⟩, ⟨q1332, q1333, ⟨RX1, TX1, 11, rfl, q1334⟩, by decide +kernel⟩⟩), fun h => absurd h (by decide)⟩ <|
  fa_cons (p := lP RX11) ⟨fun _ => (show lkOk RX11 400 0 2 2 (yX2_harmlessTax, cX2_harmlessTax, 4, (some .int)) from ⟨⟨q122, q1344, by decide, by decide, by decide⟩, ⟨q1341, q1342, ⟨RX2, TX2, 10, rfl, q1343⟩, by decide +kernel⟩⟩), fun h => absurd h (by decide)⟩ <|
  fa_cons (p := lP RX11) ⟨fun _ => (show lkOk RX11 409 0 4 2 (yX4_copyFrom, cX4_copyFrom, 3, none) from ⟨⟨q114, q1361, by decide, by decide, by decide⟩, ⟨q1358, q1359, ⟨RX4, TX4, 7, rfl, q1360⟩, by decide +kernel⟩⟩), fun h => absurd h (by decide)⟩ <|
  fa_nil
def lX12 : List (Nat × Nat × Nat × Nat × Nat) := [(109, 1, 87, 0, 2), (113, 1, 112, 0, 3), (117, 0, 111, 12, 2), (121, 0, 96, 12, 3), (125, 1, 108, 0, 2), (129, 0, 142, 12, 4), (136, 0, 103, 12, 2), (305, 0, 139, 12, 1), (319, 0, 104, 12, 3), (331, 0, 120, 12, 2), (354, 0, 160, 12, 2), (357, 0, 141, 12, 7), (361, 0, 157, 12, 3), (364, 0, 74, 12, 3), (370, 0, 161, 12, 3), (376, 0, 150, 12, 3), (379, 0, 137, 12, 2), (382, 0, 136, 12, 1), (385, 0, 89, 12, 1), (388, 0, 115, 12, 1), (391, 0, 127, 12, 1), (394, 0, 129, 12, 1), (397, 0, 113, 12, 2), (400, 0, 83, 12, 3), (403, 0, 84, 12, 3), (406, 0, 144, 12, 3), (409, 0, 85, 12, 4), (412, 0, 147, 12, 4), (415, 0, 95, 12, 4), (418, 0, 140, 12, 3), (421, 0, 131, 12, 5), (425, 0, 159, 12, 3), (428, 0, 105, 12, 3), (431, 0, 143, 12, 3), (434, 0, 146, 12, 4), (437, 0, 134, 12, 3), (440, 0, 76, 12, 2), (443, 0, 114, 12, 2), (446, 1, 75, 0, 1), (449, 0, 107, 12, 3), (452, 0, 130, 12, 2), (455, 0, 155, 12, 3), (459, 0, 78, 12, 1), (462, 0, 128, 12, 1), (465, 0, 135, 12, 1), (468, 0, 148, 12, 2), (472, 0, 149, 12, 4), (475, 1, 79, 0, 1), (487, 0, 82, 12, 3), (490, 0, 98, 12, 3), (493, 0, 123, 12, 3), (496, 0, 122, 12, 2), (503, 1, 86, 0, 2), (507, 0, 92, 12, 3), (511, 0, 153, 12, 2)]
theorem lX12_ok : ∀ e ∈ lX12, lP RX12 e :=
  fa_cons (p := lP RX12) ⟨fun _ => (show lkOk RX12 109 1 0 2 (yX12_copy, cX12_copy, 3, none) from ⟨⟨q124, q1393, by decide, by decide, by decide⟩, ⟨q1391, q1392, by decide +kernel⟩⟩), fun h => absurd h (by decide)⟩ <|
  fa_cons (p := lP RX12) ⟨fun _ => (show lkOk RX12 113 1 0 3 (yX12_isIn, cX12_isIn, 3, (some .boolean)) from ⟨⟨q124, q1560, by decide, by decide, by decide⟩, ⟨q1558, q1559, by decide +kernel⟩⟩), fun h => absurd h (by decide)⟩ <|
  fa_cons (p := lP RX12) ⟨fun _ => (show lkOk RX12 117 0 12 2 (yX12_isField, cX12_isField, 2, (some .boolean)) from ⟨⟨q124, q1568, by decide, by decide, by decide⟩, ⟨q1565, q1567, ⟨RX12, TX12, 53, rfl, q38⟩, by decide +kernel⟩⟩), fun h => absurd h (by decide)⟩ <|
  fa_cons (p := lP RX12) ⟨fun _ => (show lkOk RX12 121 0 12 3 (yX12_fieldOf, cX12_fieldOf, 3, (some .int)) from ⟨⟨q124, q1572, by decide, by decide, by decide⟩, ⟨q1569, q1571, ⟨RX12, TX12, 53, rfl, q39⟩, by decide +kernel⟩⟩), fun h => absurd h (by decide)⟩ <|
  fa_cons (p := lP RX12) ⟨fun _ => (show lkOk RX12 125 1 0 2 (yX12_has, cX12_has, 2, (some .boolean)) from ⟨⟨q124, q1575, by decide, by decide, by decide⟩, ⟨q1573, q1574, by decide +kernel⟩⟩), fun h => absurd h (by decide)⟩ <|
  fa_cons (p := lP RX12) ⟨fun _ => (show lkOk RX12 129 0 12 4 (yX12_set, cX12_set, 4, none) from ⟨⟨q124, q1583, by decide, by decide, by decide⟩, ⟨q1580, q1582, ⟨RX12, TX12, 53, rfl, q40⟩, by decide +kernel⟩⟩), fun h => absurd h (by decide)⟩ <|
  fa_cons (p := lP RX12) ⟨fun _ => (show lkOk RX12 136 0 12 2 (yX12_four, cX12_four, 3, none) from ⟨⟨q124, q1591, by decide, by decide, by decide⟩, ⟨q1588, q1590, ⟨RX12, TX12, 53, rfl, q41⟩, by decide +kernel⟩⟩), fun h => absurd h (by decide)⟩ <|
  fa_cons (p := lP RX12) ⟨fun _ => (show lkOk RX12 305 0 12 1 (yX12_readText, cX12_readText, 2, (some .int)) from ⟨⟨q124, q1603, by decide, by decide, by decide⟩, ⟨q1600, q1602, ⟨RX12, TX12, 53, rfl, q42⟩, by decide +kernel⟩⟩), fun h => absurd h (by decide)⟩ <|
  fa_cons (p := lP RX12) ⟨fun _ => (show lkOk RX12 319 0 12 3 (yX12_get, cX12_get, 3, (some .int)) from ⟨⟨q124, q1756, by decide, by decide, by decide⟩, ⟨q1753, q1755, ⟨RX12, TX12, 53, rfl, q70⟩, by decide +kernel⟩⟩), fun h => absurd h (by decide)⟩ <|
  fa_cons (p := lP RX12) ⟨fun _ => (show lkOk RX12 331 0 12 2 (yX12_name, cX12_name, 2, none) from ⟨⟨q124, q1788, by decide, by decide, by decide⟩, ⟨q1785, q1787, ⟨RX12, TX12, 53, rfl, q77⟩, by decide +kernel⟩⟩), fun h => absurd h (by decide)⟩ <|
  fa_cons (p := lP RX12) ⟨fun _ => (show lkOk RX12 354 0 12 2 (yX12_worked, cX12_worked, 9, (some .int)) from ⟨⟨q124, q1792, by decide, by decide, by decide⟩, ⟨q1789, q1791, ⟨RX12, TX12, 53, rfl, q78⟩, by decide +kernel⟩⟩), fun h => absurd h (by decide)⟩ <|
  fa_cons (p := lP RX12) ⟨fun _ => (show lkOk RX12 357 0 12 7 (yX12_says, cX12_says, 9, (some .int)) from ⟨⟨q124, q1784, by decide, by decide, by decide⟩, ⟨q1781, q1783, ⟨RX12, TX12, 53, rfl, q76⟩, by decide +kernel⟩⟩), fun h => absurd h (by decide)⟩ <|
  fa_cons (p := lP RX12) ⟨fun _ => (show lkOk RX12 361 0 12 3 (yX12_wet, cX12_wet, 3, none) from ⟨⟨q124, q1827, by decide, by decide, by decide⟩, ⟨q1824, q1826, ⟨RX12, TX12, 53, rfl, q84⟩, by decide +kernel⟩⟩), fun h => absurd h (by decide)⟩ <|
  fa_cons (p := lP RX12) ⟨fun _ => (show lkOk RX12 364 0 12 3 (yX12_addTo, cX12_addTo, 3, none) from ⟨⟨q124, q1819, by decide, by decide, by decide⟩, ⟨q1816, q1818, ⟨RX12, TX12, 53, rfl, q82⟩, by decide +kernel⟩⟩), fun h => absurd h (by decide)⟩ <|
  fa_cons (p := lP RX12) ⟨fun _ => (show lkOk RX12 370 0 12 3 (yX12_write, cX12_write, 3, none) from ⟨⟨q124, q1831, by decide, by decide, by decide⟩, ⟨q1828, q1830, ⟨RX12, TX12, 53, rfl, q85⟩, by decide +kernel⟩⟩), fun h => absurd h (by decide)⟩ <|
  fa_cons (p := lP RX12) ⟨fun _ => (show lkOk RX12 376 0 12 3 (yX12_sweatOf, cX12_sweatOf, 4, (some .int)) from ⟨⟨q124, q1780, by decide, by decide, by decide⟩, ⟨q1777, q1779, ⟨RX12, TX12, 53, rfl, q75⟩, by decide +kernel⟩⟩), fun h => absurd h (by decide)⟩ <|
  fa_cons (p := lP RX12) ⟨fun _ => (show lkOk RX12 379 0 12 2 (yX12_rainOf, cX12_rainOf, 5, none) from ⟨⟨q124, q1823, by decide, by decide, by decide⟩, ⟨q1820, q1822, ⟨RX12, TX12, 53, rfl, q83⟩, by decide +kernel⟩⟩), fun h => absurd h (by decide)⟩ <|
  fa_cons (p := lP RX12) ⟨fun _ => (show lkOk RX12 382 0 12 1 (yX12_rainAll, cX12_rainAll, 3, (some .int)) from ⟨⟨q124, q1776, by decide, by decide, by decide⟩, ⟨q1773, q1775, ⟨RX12, TX12, 53, rfl, q74⟩, by decide +kernel⟩⟩), fun h => absurd h (by decide)⟩ <|
  fa_cons (p := lP RX12) ⟨fun _ => (show lkOk RX12 385 0 12 1 (yX12_dryAll, cX12_dryAll, 4, none) from ⟨⟨q124, q1835, by decide, by decide, by decide⟩, ⟨q1832, q1834, ⟨RX12, TX12, 53, rfl, q86⟩, by decide +kernel⟩⟩), fun h => absurd h (by decide)⟩ <|
  fa_cons (p := lP RX12) ⟨fun _ => (show lkOk RX12 388 0 12 1 (yX12_keep, cX12_keep, 4, none) from ⟨⟨q124, q1768, by decide, by decide, by decide⟩, ⟨q1765, q1767, ⟨RX12, TX12, 53, rfl, q72⟩, by decide +kernel⟩⟩), fun h => absurd h (by decide)⟩ <|
  fa_cons (p := lP RX12) ⟨fun _ => (show lkOk RX12 391 0 12 1 (yX12_pass, cX12_pass, 3, (some .int)) from ⟨⟨q124, q1772, by decide, by decide, by decide⟩, ⟨q1769, q1771, ⟨RX12, TX12, 53, rfl, q73⟩, by decide +kernel⟩⟩), fun h => absurd h (by decide)⟩ <|
  fa_cons (p := lP RX12) ⟨fun _ => (show lkOk RX12 394 0 12 1 (yX12_passStep, cX12_passStep, 1, (some .int)) from ⟨⟨q124, q1764, by decide, by decide, by decide⟩, ⟨q1761, q1763, ⟨RX12, TX12, 53, rfl, q71⟩, by decide +kernel⟩⟩), fun h => absurd h (by decide)⟩ <|
  fa_cons (p := lP RX12) ⟨fun _ => (show lkOk RX12 397 0 12 2 (yX12_isPerson, cX12_isPerson, 2, (some .boolean)) from ⟨⟨q124, q1843, by decide, by decide, by decide⟩, ⟨q1840, q1842, ⟨RX12, TX12, 53, rfl, q87⟩, by decide +kernel⟩⟩), fun h => absurd h (by decide)⟩ <|
  fa_cons (p := lP RX12) ⟨fun _ => (show lkOk RX12 400 0 12 3 (yX12_canGo, cX12_canGo, 3, (some .boolean)) from ⟨⟨q124, q1851, by decide, by decide, by decide⟩, ⟨q1848, q1850, ⟨RX12, TX12, 53, rfl, q88⟩, by decide +kernel⟩⟩), fun h => absurd h (by decide)⟩ <|
  fa_cons (p := lP RX12) ⟨fun _ => (show lkOk RX12 403 0 12 3 (yX12_canShake, cX12_canShake, 3, (some .boolean)) from ⟨⟨q124, q1859, by decide, by decide, by decide⟩, ⟨q1856, q1858, ⟨RX12, TX12, 53, rfl, q89⟩, by decide +kernel⟩⟩), fun h => absurd h (by decide)⟩ <|
  fa_cons (p := lP RX12) ⟨fun _ => (show lkOk RX12 406 0 12 3 (yX12_shakeNow, cX12_shakeNow, 5, none) from ⟨⟨q124, q1863, by decide, by decide, by decide⟩, ⟨q1860, q1862, ⟨RX12, TX12, 53, rfl, q90⟩, by decide +kernel⟩⟩), fun h => absurd h (by decide)⟩ <|
  fa_cons (p := lP RX12) ⟨fun _ => (show lkOk RX12 409 0 12 4 (yX12_canSteal, cX12_canSteal, 4, (some .boolean)) from ⟨⟨q124, q1871, by decide, by decide, by decide⟩, ⟨q1868, q1870, ⟨RX12, TX12, 53, rfl, q91⟩, by decide +kernel⟩⟩), fun h => absurd h (by decide)⟩ <|
  fa_cons (p := lP RX12) ⟨fun _ => (show lkOk RX12 412 0 12 4 (yX12_stealNow, cX12_stealNow, 4, none) from ⟨⟨q124, q1875, by decide, by decide, by decide⟩, ⟨q1872, q1874, ⟨RX12, TX12, 53, rfl, q92⟩, by decide +kernel⟩⟩), fun h => absurd h (by decide)⟩ <|
  fa_cons (p := lP RX12) ⟨fun _ => (show lkOk RX12 415 0 12 4 (yX12_field, cX12_field, 6, (some .int)) from ⟨⟨q124, q1557, by decide, by decide, by decide⟩, ⟨q1888, q1555, ⟨RX12, TX12, 53, rfl, q1556⟩, by decide +kernel⟩⟩), fun h => absurd h (by decide)⟩ <|
  fa_cons (p := lP RX12) ⟨fun _ => (show lkOk RX12 418 0 12 3 (yX12_road, cX12_road, 3, (some .boolean)) from ⟨⟨q124, q1564, by decide, by decide, by decide⟩, ⟨q1889, q1562, ⟨RX12, TX12, 53, rfl, q1563⟩, by decide +kernel⟩⟩), fun h => absurd h (by decide)⟩ <|
  fa_cons (p := lP RX12) ⟨fun _ => (show lkOk RX12 421 0 12 5 (yX12_person, cX12_person, 7, (some .int)) from ⟨⟨q124, q1579, by decide, by decide, by decide⟩, ⟨q1890, q1577, ⟨RX12, TX12, 53, rfl, q1578⟩, by decide +kernel⟩⟩), fun h => absurd h (by decide)⟩ <|
  fa_cons (p := lP RX12) ⟨fun _ => (show lkOk RX12 425 0 12 3 (yX12_work, cX12_work, 3, (some .boolean)) from ⟨⟨q124, q1839, by decide, by decide, by decide⟩, ⟨q1891, q1837, ⟨RX12, TX12, 53, rfl, q1838⟩, by decide +kernel⟩⟩), fun h => absurd h (by decide)⟩ <|
  fa_cons (p := lP RX12) ⟨fun _ => (show lkOk RX12 428 0 12 3 (yX12_go, cX12_go, 3, (some .boolean)) from ⟨⟨q124, q1847, by decide, by decide, by decide⟩, ⟨q1892, q1845, ⟨RX12, TX12, 53, rfl, q1846⟩, by decide +kernel⟩⟩), fun h => absurd h (by decide)⟩ <|
  fa_cons (p := lP RX12) ⟨fun _ => (show lkOk RX12 431 0 12 3 (yX12_shake, cX12_shake, 3, (some .int)) from ⟨⟨q124, q1855, by decide, by decide, by decide⟩, ⟨q1893, q1853, ⟨RX12, TX12, 53, rfl, q1854⟩, by decide +kernel⟩⟩), fun h => absurd h (by decide)⟩ <|
  fa_cons (p := lP RX12) ⟨fun _ => (show lkOk RX12 434 0 12 4 (yX12_steal, cX12_steal, 4, (some .int)) from ⟨⟨q124, q1867, by decide, by decide, by decide⟩, ⟨q1894, q1865, ⟨RX12, TX12, 53, rfl, q1866⟩, by decide +kernel⟩⟩), fun h => absurd h (by decide)⟩ <|
  fa_cons (p := lP RX12) ⟨fun _ => (show lkOk RX12 437 0 12 3 (yX12_pour, cX12_pour, 3, (some .int)) from ⟨⟨q124, q1879, by decide, by decide, by decide⟩, ⟨q1895, q1877, ⟨RX12, TX12, 53, rfl, q1878⟩, by decide +kernel⟩⟩), fun h => absurd h (by decide)⟩ <|
  fa_cons (p := lP RX12) ⟨fun _ => (show lkOk RX12 440 0 12 2 (yX12_areHours, cX12_areHours, 3, (some .boolean)) from ⟨⟨q124, q1899, by decide, by decide, by decide⟩, ⟨q1896, q1898, ⟨RX12, TX12, 53, rfl, q94⟩, by decide +kernel⟩⟩), fun h => absurd h (by decide)⟩ <|
  fa_cons (p := lP RX12) ⟨fun _ => (show lkOk RX12 443 0 12 2 (yX12_isPlayed, cX12_isPlayed, 5, (some .boolean)) from ⟨⟨q124, q1887, by decide, by decide, by decide⟩, ⟨q1884, q1886, ⟨RX12, TX12, 53, rfl, q93⟩, by decide +kernel⟩⟩), fun h => absurd h (by decide)⟩ <|
  fa_cons (p := lP RX12) ⟨fun _ => (show lkOk RX12 446 1 0 1 (yX12_anew, cX12_anew, 1, (some .int)) from ⟨⟨q124, q1906, by decide, by decide, by decide⟩, ⟨q1904, q1905, by decide +kernel⟩⟩), fun h => absurd h (by decide)⟩ <|
  fa_cons (p := lP RX12) ⟨fun _ => (show lkOk RX12 449 0 12 3 (yX12_happens, cX12_happens, 6, (some .int)) from ⟨⟨q124, q1910, by decide, by decide, by decide⟩, ⟨q1907, q1909, ⟨RX12, TX12, 53, rfl, q95⟩, by decide +kernel⟩⟩), fun h => absurd h (by decide)⟩ <|
  fa_cons (p := lP RX12) ⟨fun _ => (show lkOk RX12 452 0 12 2 (yX12_peopleOn, cX12_peopleOn, 4, (some .int)) from ⟨⟨q124, q1918, by decide, by decide, by decide⟩, ⟨q1915, q1917, ⟨RX12, TX12, 53, rfl, q96⟩, by decide +kernel⟩⟩), fun h => absurd h (by decide)⟩ <|
  fa_cons (p := lP RX12) ⟨fun _ => (show lkOk RX12 455 0 12 3 (yX12_wasAt, cX12_wasAt, 3, (some .int)) from ⟨⟨q124, q1926, by decide, by decide, by decide⟩, ⟨q1923, q1925, ⟨RX12, TX12, 53, rfl, q97⟩, by decide +kernel⟩⟩), fun h => absurd h (by decide)⟩ <|
  fa_cons (p := lP RX12) ⟨fun _ => (show lkOk RX12 459 0 12 1 (yX12_begin, cX12_begin, 2, none) from ⟨⟨q124, q1939, by decide, by decide, by decide⟩, ⟨q1936, q1938, ⟨RX12, TX12, 53, rfl, q98⟩, by decide +kernel⟩⟩), fun h => absurd h (by decide)⟩ <|
  fa_cons (p := lP RX12) ⟨fun _ => (show lkOk RX12 462 0 12 1 (yX12_passOnward, cX12_passOnward, 2, none) from ⟨⟨q124, q1943, by decide, by decide, by decide⟩, ⟨q1940, q1942, ⟨RX12, TX12, 53, rfl, q99⟩, by decide +kernel⟩⟩), fun h => absurd h (by decide)⟩ <|
  fa_cons (p := lP RX12) ⟨fun _ => (show lkOk RX12 465 0 12 1 (yX12_putBack, cX12_putBack, 2, none) from ⟨⟨q124, q1947, by decide, by decide, by decide⟩, ⟨q1944, q1946, ⟨RX12, TX12, 53, rfl, q100⟩, by decide +kernel⟩⟩), fun h => absurd h (by decide)⟩ <|
  fa_cons (p := lP RX12) ⟨fun _ => (show lkOk RX12 468 0 12 2 (yX12_sweatAllFor, cX12_sweatAllFor, 5, (some .int)) from ⟨⟨q124, q1964, by decide, by decide, by decide⟩, ⟨q1961, q1963, ⟨RX12, TX12, 53, rfl, q102⟩, by decide +kernel⟩⟩), fun h => absurd h (by decide)⟩ <|
  fa_cons (p := lP RX12) ⟨fun _ => (show lkOk RX12 472 0 12 4 (yX12_sweatBy, cX12_sweatBy, 10, (some .int)) from ⟨⟨q124, q1960, by decide, by decide, by decide⟩, ⟨q1957, q1959, ⟨RX12, TX12, 53, rfl, q101⟩, by decide +kernel⟩⟩), fun h => absurd h (by decide)⟩ <|
  fa_cons (p := lP RX12) ⟨fun _ => (show lkOk RX12 475 1 0 1 (yX12_bits, cX12_bits, 3, (some .int)) from ⟨⟨q124, q1975, by decide, by decide, by decide⟩, ⟨q1973, q1974, by decide +kernel⟩⟩), fun h => absurd h (by decide)⟩ <|
  fa_cons (p := lP RX12) ⟨fun _ => (show lkOk RX12 487 0 12 3 (yX12_canCome, cX12_canCome, 3, (some .boolean)) from ⟨⟨q124, q1999, by decide, by decide, by decide⟩, ⟨q1996, q1998, ⟨RX12, TX12, 53, rfl, q107⟩, by decide +kernel⟩⟩), fun h => absurd h (by decide)⟩ <|
  fa_cons (p := lP RX12) ⟨fun _ => (show lkOk RX12 490 0 12 3 (yX12_findRoads, cX12_findRoads, 6, none) from ⟨⟨q124, q1995, by decide, by decide, by decide⟩, ⟨q1992, q1994, ⟨RX12, TX12, 53, rfl, q106⟩, by decide +kernel⟩⟩), fun h => absurd h (by decide)⟩ <|
  fa_cons (p := lP RX12) ⟨fun _ => (show lkOk RX12 493 0 12 3 (yX12_nextField, cX12_nextField, 4, (some .int)) from ⟨⟨q124, q2003, by decide, by decide, by decide⟩, ⟨q2000, q2002, ⟨RX12, TX12, 53, rfl, q108⟩, by decide +kernel⟩⟩), fun h => absurd h (by decide)⟩ <|
  fa_cons (p := lP RX12) ⟨fun _ => (show lkOk RX12 496 0 12 2 (yX12_nearOf, cX12_nearOf, 7, (some .int)) from ⟨⟨q124, q2019, by decide, by decide, by decide⟩, ⟨q2016, q2018, ⟨RX12, TX12, 53, rfl, q109⟩, by decide +kernel⟩⟩), fun h => absurd h (by decide)⟩ <|
  fa_cons (p := lP RX12) ⟨fun _ => (show lkOk RX12 503 1 0 2 (yX12_common, cX12_common, 10, (some .long)) from ⟨⟨q124, q2032, by decide, by decide, by decide⟩, ⟨q2030, q2031, by decide +kernel⟩⟩), fun h => absurd h (by decide)⟩ <|
  fa_cons (p := lP RX12) ⟨fun _ => (show lkOk RX12 507 0 12 3 (yX12_errorsOf, cX12_errorsOf, 7, (some .int)) from ⟨⟨q124, q2044, by decide, by decide, by decide⟩, ⟨q2041, q2043, ⟨RX12, TX12, 53, rfl, q110⟩, by decide +kernel⟩⟩), fun h => absurd h (by decide)⟩ <|
  fa_cons (p := lP RX12) ⟨fun _ => (show lkOk RX12 511 0 12 2 (yX12_tradedAt, cX12_tradedAt, 6, (some .int)) from ⟨⟨q124, q2060, by decide, by decide, by decide⟩, ⟨q2057, q2059, ⟨RX12, TX12, 53, rfl, q111⟩, by decide +kernel⟩⟩), fun h => absurd h (by decide)⟩ <|
  fa_nil
def kJ6 : List (Nat × Int) := [(265, 1431655765), (266, 858993459), (267, 252645135)]
theorem kJ6_ok : ∀ e ∈ kJ6, Cond.constant RJ6 e.1 (Int32.ofInt e.2) ∈ gtbl :=
  fa_cons (p := fun e : Nat × Int => Cond.constant RJ6 e.1 (Int32.ofInt e.2) ∈ gtbl) q1025 <|
  fa_cons (p := fun e : Nat × Int => Cond.constant RJ6 e.1 (Int32.ofInt e.2) ∈ gtbl) q1026 <|
  fa_cons (p := fun e : Nat × Int => Cond.constant RJ6 e.1 (Int32.ofInt e.2) ∈ gtbl) q1027 <|
  fa_nil
def kkJ6 : List (Nat × Int) := []
theorem kkJ6_ok : ∀ e ∈ kkJ6, Cond.constantLong RJ6 e.1 (Int64.ofInt e.2) ∈ gtbl :=
  fa_nil
def kJ9 : List (Nat × Int) := []
theorem kJ9_ok : ∀ e ∈ kJ9, Cond.constant RJ9 e.1 (Int32.ofInt e.2) ∈ gtbl :=
  fa_nil
def kkJ9 : List (Nat × Int) := []
theorem kkJ9_ok : ∀ e ∈ kkJ9, Cond.constantLong RJ9 e.1 (Int64.ofInt e.2) ∈ gtbl :=
  fa_nil
def kX0 : List (Nat × Int) := []
theorem kX0_ok : ∀ e ∈ kX0, Cond.constant RX0 e.1 (Int32.ofInt e.2) ∈ gtbl :=
  fa_nil
def kkX0 : List (Nat × Int) := []
theorem kkX0_ok : ∀ e ∈ kkX0, Cond.constantLong RX0 e.1 (Int64.ofInt e.2) ∈ gtbl :=
  fa_nil
def kX1 : List (Nat × Int) := []
theorem kX1_ok : ∀ e ∈ kX1, Cond.constant RX1 e.1 (Int32.ofInt e.2) ∈ gtbl :=
  fa_nil
def kkX1 : List (Nat × Int) := []
theorem kkX1_ok : ∀ e ∈ kkX1, Cond.constantLong RX1 e.1 (Int64.ofInt e.2) ∈ gtbl :=
  fa_nil
def kX2 : List (Nat × Int) := []
theorem kX2_ok : ∀ e ∈ kX2, Cond.constant RX2 e.1 (Int32.ofInt e.2) ∈ gtbl :=
  fa_nil
def kkX2 : List (Nat × Int) := []
theorem kkX2_ok : ∀ e ∈ kkX2, Cond.constantLong RX2 e.1 (Int64.ofInt e.2) ∈ gtbl :=
  fa_nil
def kX3 : List (Nat × Int) := []
theorem kX3_ok : ∀ e ∈ kX3, Cond.constant RX3 e.1 (Int32.ofInt e.2) ∈ gtbl :=
  fa_nil
def kkX3 : List (Nat × Int) := []
theorem kkX3_ok : ∀ e ∈ kkX3, Cond.constantLong RX3 e.1 (Int64.ofInt e.2) ∈ gtbl :=
  fa_nil
def kX4 : List (Nat × Int) := []
theorem kX4_ok : ∀ e ∈ kX4, Cond.constant RX4 e.1 (Int32.ofInt e.2) ∈ gtbl :=
  fa_nil
def kkX4 : List (Nat × Int) := []
theorem kkX4_ok : ∀ e ∈ kkX4, Cond.constantLong RX4 e.1 (Int64.ofInt e.2) ∈ gtbl :=
  fa_nil
def kX5 : List (Nat × Int) := []
theorem kX5_ok : ∀ e ∈ kX5, Cond.constant RX5 e.1 (Int32.ofInt e.2) ∈ gtbl :=
  fa_nil
def kkX5 : List (Nat × Int) := []
theorem kkX5_ok : ∀ e ∈ kkX5, Cond.constantLong RX5 e.1 (Int64.ofInt e.2) ∈ gtbl :=
  fa_nil
def kX6 : List (Nat × Int) := []
theorem kX6_ok : ∀ e ∈ kX6, Cond.constant RX6 e.1 (Int32.ofInt e.2) ∈ gtbl :=
  fa_nil
def kkX6 : List (Nat × Int) := []
theorem kkX6_ok : ∀ e ∈ kkX6, Cond.constantLong RX6 e.1 (Int64.ofInt e.2) ∈ gtbl :=
  fa_nil
def kX7 : List (Nat × Int) := []
theorem kX7_ok : ∀ e ∈ kX7, Cond.constant RX7 e.1 (Int32.ofInt e.2) ∈ gtbl :=
  fa_nil
def kkX7 : List (Nat × Int) := []
theorem kkX7_ok : ∀ e ∈ kkX7, Cond.constantLong RX7 e.1 (Int64.ofInt e.2) ∈ gtbl :=
  fa_nil
def kX8 : List (Nat × Int) := []
theorem kX8_ok : ∀ e ∈ kX8, Cond.constant RX8 e.1 (Int32.ofInt e.2) ∈ gtbl :=
  fa_nil
def kkX8 : List (Nat × Int) := []
theorem kkX8_ok : ∀ e ∈ kkX8, Cond.constantLong RX8 e.1 (Int64.ofInt e.2) ∈ gtbl :=
  fa_nil
def kX9 : List (Nat × Int) := [(194, 1000000), (197, (-1000000))]
theorem kX9_ok : ∀ e ∈ kX9, Cond.constant RX9 e.1 (Int32.ofInt e.2) ∈ gtbl :=
  fa_cons (p := fun e : Nat × Int => Cond.constant RX9 e.1 (Int32.ofInt e.2) ∈ gtbl) q996 <|
  fa_cons (p := fun e : Nat × Int => Cond.constant RX9 e.1 (Int32.ofInt e.2) ∈ gtbl) q998 <|
  fa_nil
def kkX9 : List (Nat × Int) := [(192, 1000000), (195, (-1000000))]
theorem kkX9_ok : ∀ e ∈ kkX9, Cond.constantLong RX9 e.1 (Int64.ofInt e.2) ∈ gtbl :=
  fa_cons (p := fun e : Nat × Int => Cond.constantLong RX9 e.1 (Int64.ofInt e.2) ∈ gtbl) q995 <|
  fa_cons (p := fun e : Nat × Int => Cond.constantLong RX9 e.1 (Int64.ofInt e.2) ∈ gtbl) q997 <|
  fa_nil
def kX10 : List (Nat × Int) := []
theorem kX10_ok : ∀ e ∈ kX10, Cond.constant RX10 e.1 (Int32.ofInt e.2) ∈ gtbl :=
  fa_nil
def kkX10 : List (Nat × Int) := []
theorem kkX10_ok : ∀ e ∈ kkX10, Cond.constantLong RX10 e.1 (Int64.ofInt e.2) ∈ gtbl :=
  fa_nil
def kX11 : List (Nat × Int) := []
theorem kX11_ok : ∀ e ∈ kX11, Cond.constant RX11 e.1 (Int32.ofInt e.2) ∈ gtbl :=
  fa_nil
def kkX11 : List (Nat × Int) := [(367, (-1))]
theorem kkX11_ok : ∀ e ∈ kkX11, Cond.constantLong RX11 e.1 (Int64.ofInt e.2) ∈ gtbl :=
  fa_cons (p := fun e : Nat × Int => Cond.constantLong RX11 e.1 (Int64.ofInt e.2) ∈ gtbl) q1288 <|
  fa_nil
def kX12 : List (Nat × Int) := [(458, 6000000), (471, 1000000)]
theorem kX12_ok : ∀ e ∈ kX12, Cond.constant RX12 e.1 (Int32.ofInt e.2) ∈ gtbl :=
  fa_cons (p := fun e : Nat × Int => Cond.constant RX12 e.1 (Int32.ofInt e.2) ∈ gtbl) q1931 <|
  fa_cons (p := fun e : Nat × Int => Cond.constant RX12 e.1 (Int32.ofInt e.2) ∈ gtbl) q1956 <|
  fa_nil
def kkX12 : List (Nat × Int) := [(499, (-1)), (501, 10)]
theorem kkX12_ok : ∀ e ∈ kkX12, Cond.constantLong RX12 e.1 (Int64.ofInt e.2) ∈ gtbl :=
  fa_cons (p := fun e : Nat × Int => Cond.constantLong RX12 e.1 (Int64.ofInt e.2) ∈ gtbl) q2028 <|
  fa_cons (p := fun e : Nat × Int => Cond.constantLong RX12 e.1 (Int64.ofInt e.2) ∈ gtbl) q2029 <|
  fa_nil
