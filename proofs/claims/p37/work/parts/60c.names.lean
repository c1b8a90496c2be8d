/-! Methods, links, fields by name. -/
abbrev M_begin : MT := (yX12_begin, cX12_begin, 2, none)
theorem mt_begin : mt 76 = M_begin := rfl
abbrev M_beginOne : MT := (yX12_beginOne, cX12_beginOne, 2, (some .int))
theorem mt_beginOne : mt 77 = M_beginOne := rfl
abbrev M_behindOne : MT := (yX12_behindOne, cX12_behindOne, 4, (some .boolean))
theorem mt_behindOne : mt 78 = M_behindOne := rfl
abbrev M_betweenOf : MT := (yX12_betweenOf, cX12_betweenOf, 1, (some .int))
theorem mt_betweenOf : mt 79 = M_betweenOf := rfl
abbrev M_bits : MT := (yX12_bits, cX12_bits, 3, (some .int))
theorem mt_bits : mt 80 = M_bits := rfl
abbrev M_body : MT := (yX12_body, cX12_body, 3, (some .int))
theorem mt_body : mt 81 = M_body := rfl
abbrev M_canCome : MT := (yX12_canCome, cX12_canCome, 3, (some .boolean))
theorem mt_canCome : mt 85 = M_canCome := rfl
abbrev M_clause : MT := (yX12_clause, cX12_clause, 5, (some .int))
theorem mt_clause : mt 89 = M_clause := rfl
abbrev M_common : MT := (yX12_common, cX12_common, 10, (some .long))
theorem mt_common : mt 91 = M_common := rfl
abbrev M_compareOf : MT := (yX12_compareOf, cX12_compareOf, 1, (some .int))
theorem mt_compareOf : mt 92 = M_compareOf := rfl
abbrev M_copy : MT := (yX12_copy, cX12_copy, 3, none)
theorem mt_copy : mt 93 = M_copy := rfl
abbrev M_cross : MT := (yX12_cross, cX12_cross, 8, (some .int))
theorem mt_cross : mt 94 = M_cross := rfl
abbrev M_emit : MT := (yX12_emit, cX12_emit, 3, none)
theorem mt_emit : mt 96 = M_emit := rfl
abbrev M_endEach : MT := (yX12_endEach, cX12_endEach, 2, (some .int))
theorem mt_endEach : mt 98 = M_endEach := rfl
abbrev M_fieldClause : MT := (yX12_fieldClause, cX12_fieldClause, 3, (some .int))
theorem mt_fieldClause : mt 104 = M_fieldClause := rfl
abbrev M_figure : MT := (yX12_figure, cX12_figure, 4, (some .int))
theorem mt_figure : mt 106 = M_figure := rfl
abbrev M_findRoads : MT := (yX12_findRoads, cX12_findRoads, 6, none)
theorem mt_findRoads : mt 108 = M_findRoads := rfl
abbrev M_findYields : MT := (yX12_findYields, cX12_findYields, 4, none)
theorem mt_findYields : mt 109 = M_findYields := rfl
abbrev M_has : MT := (yX12_has, cX12_has, 2, (some .boolean))
theorem mt_has : mt 118 = M_has := rfl
abbrev M_isAskAhead : MT := (yX12_isAskAhead, cX12_isAskAhead, 1, (some .boolean))
theorem mt_isAskAhead : mt 121 = M_isAskAhead := rfl
abbrev M_isCompared : MT := (yX12_isCompared, cX12_isCompared, 2, (some .boolean))
theorem mt_isCompared : mt 123 = M_isCompared := rfl
abbrev M_isWord : MT := (yX12_isWord, cX12_isWord, 3, (some .boolean))
theorem mt_isWord : mt 132 = M_isWord := rfl
abbrev M_lawClause : MT := (yX12_lawClause, cX12_lawClause, 3, (some .int))
theorem mt_lawClause : mt 134 = M_lawClause := rfl
abbrev M_layWorkers : MT := (yX12_layWorkers, cX12_layWorkers, 5, (some .boolean))
theorem mt_layWorkers : mt 135 = M_layWorkers := rfl
abbrev M_match : MT := (yX12_match, cX12_match, 9, (some .int))
theorem mt_match : mt 137 = M_match := rfl
abbrev M_name : MT := (yX12_name, cX12_name, 2, none)
theorem mt_name : mt 139 = M_name := rfl
abbrev M_nextField : MT := (yX12_nextField, cX12_nextField, 4, (some .int))
theorem mt_nextField : mt 143 = M_nextField := rfl
abbrev M_nextOrder : MT := (yX12_nextOrder, cX12_nextOrder, 7, (some .boolean))
theorem mt_nextOrder : mt 144 = M_nextOrder := rfl
abbrev M_nextThere : MT := (yX12_nextThere, cX12_nextThere, 3, (some .int))
theorem mt_nextThere : mt 145 = M_nextThere := rfl
abbrev M_nextToken : MT := (yX12_nextToken, cX12_nextToken, 2, none)
theorem mt_nextToken : mt 146 = M_nextToken := rfl
abbrev M_oneClause : MT := (yX12_oneClause, cX12_oneClause, 3, (some .int))
theorem mt_oneClause : mt 150 = M_oneClause := rfl
abbrev M_openNow : MT := (yX12_openNow, cX12_openNow, 2, (some .int))
theorem mt_openNow : mt 151 = M_openNow := rfl
abbrev M_opened : MT := (yX12_opened, cX12_opened, 2, (some .int))
theorem mt_opened : mt 152 = M_opened := rfl
abbrev M_pair : MT := (yX12_pair, cX12_pair, 8, (some .int))
theorem mt_pair : mt 153 = M_pair := rfl
abbrev M_putBack : MT := (yX12_putBack, cX12_putBack, 2, none)
theorem mt_putBack : mt 162 = M_putBack := rfl
abbrev M_rank : MT := (yX12_rank, cX12_rank, 1, (some .int))
theorem mt_rank : mt 166 = M_rank := rfl
abbrev M_readText : MT := (yX12_readText, cX12_readText, 2, (some .int))
theorem mt_readText : mt 167 = M_readText := rfl
abbrev M_settle : MT := (yX12_settle, cX12_settle, 2, none)
theorem mt_settle : mt 171 = M_settle := rfl
abbrev M_shut : MT := (yX12_shut, cX12_shut, 2, none)
theorem mt_shut : mt 175 = M_shut := rfl
abbrev M_stealClause : MT := (yX12_stealClause, cX12_stealClause, 3, (some .int))
theorem mt_stealClause : mt 178 = M_stealClause := rfl
abbrev M_summed : MT := (yX12_summed, cX12_summed, 2, (some .int))
theorem mt_summed : mt 180 = M_summed := rfl
abbrev M_takeNext : MT := (yX12_takeNext, cX12_takeNext, 1, (some .boolean))
theorem mt_takeNext : mt 184 = M_takeNext := rfl
abbrev M_worded : MT := (yX12_worded, cX12_worded, 6, (some .int))
theorem mt_worded : mt 199 = M_worded := rfl
abbrev M_worked : MT := (yX12_worked, cX12_worked, 9, (some .int))
theorem mt_worked : mt 201 = M_worked := rfl
theorem le_109 : (109, 1, 93, 0, 2) ∈ lX12 := List.mem_of_getElem? (i := 0) rfl
theorem le_113 : (113, 1, 126, 0, 3) ∈ lX12 := List.mem_of_getElem? (i := 1) rfl
theorem le_117 : (117, 0, 124, 12, 2) ∈ lX12 := List.mem_of_getElem? (i := 2) rfl
theorem le_121 : (121, 0, 105, 12, 3) ∈ lX12 := List.mem_of_getElem? (i := 3) rfl
theorem le_125 : (125, 1, 118, 0, 2) ∈ lX12 := List.mem_of_getElem? (i := 4) rfl
theorem le_129 : (129, 0, 170, 12, 4) ∈ lX12 := List.mem_of_getElem? (i := 5) rfl
theorem le_136 : (136, 0, 113, 12, 2) ∈ lX12 := List.mem_of_getElem? (i := 6) rfl
theorem le_143 : (143, 0, 84, 12, 2) ∈ lX12 := List.mem_of_getElem? (i := 7) rfl
theorem le_153 : (153, 1, 125, 0, 1) ∈ lX12 := List.mem_of_getElem? (i := 8) rfl
theorem le_160 : (160, 1, 127, 0, 1) ∈ lX12 := List.mem_of_getElem? (i := 9) rfl
theorem le_169 : (169, 1, 131, 0, 1) ∈ lX12 := List.mem_of_getElem? (i := 10) rfl
theorem le_172 : (172, 1, 190, 0, 2) ∈ lX12 := List.mem_of_getElem? (i := 11) rfl
theorem le_176 : (176, 1, 191, 0, 3) ∈ lX12 := List.mem_of_getElem? (i := 12) rfl
theorem le_180 : (180, 1, 192, 0, 4) ∈ lX12 := List.mem_of_getElem? (i := 13) rfl
theorem le_184 : (184, 1, 193, 0, 5) ∈ lX12 := List.mem_of_getElem? (i := 14) rfl
theorem le_203 : (203, 1, 166, 0, 1) ∈ lX12 := List.mem_of_getElem? (i := 15) rfl
theorem le_206 : (206, 0, 96, 12, 3) ∈ lX12 := List.mem_of_getElem? (i := 16) rfl
theorem le_213 : (213, 0, 151, 12, 1) ∈ lX12 := List.mem_of_getElem? (i := 17) rfl
theorem le_217 : (217, 0, 146, 12, 1) ∈ lX12 := List.mem_of_getElem? (i := 18) rfl
theorem le_220 : (220, 0, 140, 12, 1) ∈ lX12 := List.mem_of_getElem? (i := 19) rfl
theorem le_223 : (223, 0, 128, 12, 2) ∈ lX12 := List.mem_of_getElem? (i := 20) rfl
theorem le_230 : (230, 0, 171, 12, 2) ∈ lX12 := List.mem_of_getElem? (i := 21) rfl
theorem le_233 : (233, 0, 152, 12, 2) ∈ lX12 := List.mem_of_getElem? (i := 22) rfl
theorem le_236 : (236, 0, 132, 12, 2) ∈ lX12 := List.mem_of_getElem? (i := 23) rfl
theorem le_240 : (240, 0, 121, 12, 1) ∈ lX12 := List.mem_of_getElem? (i := 24) rfl
theorem le_244 : (244, 0, 123, 12, 1) ∈ lX12 := List.mem_of_getElem? (i := 25) rfl
theorem le_247 : (247, 0, 92, 12, 1) ∈ lX12 := List.mem_of_getElem? (i := 26) rfl
theorem le_250 : (250, 0, 79, 12, 1) ∈ lX12 := List.mem_of_getElem? (i := 27) rfl
theorem le_253 : (253, 0, 175, 12, 2) ∈ lX12 := List.mem_of_getElem? (i := 28) rfl
theorem le_256 : (256, 0, 78, 12, 1) ∈ lX12 := List.mem_of_getElem? (i := 29) rfl
theorem le_259 : (259, 0, 77, 12, 1) ∈ lX12 := List.mem_of_getElem? (i := 30) rfl
theorem le_262 : (262, 0, 106, 12, 4) ∈ lX12 := List.mem_of_getElem? (i := 31) rfl
theorem le_266 : (266, 0, 180, 12, 1) ∈ lX12 := List.mem_of_getElem? (i := 32) rfl
theorem le_269 : (269, 0, 199, 12, 5) ∈ lX12 := List.mem_of_getElem? (i := 33) rfl
theorem le_273 : (273, 1, 194, 0, 6) ∈ lX12 := List.mem_of_getElem? (i := 34) rfl
theorem le_277 : (277, 0, 104, 12, 2) ∈ lX12 := List.mem_of_getElem? (i := 35) rfl
theorem le_280 : (280, 0, 153, 12, 6) ∈ lX12 := List.mem_of_getElem? (i := 36) rfl
theorem le_284 : (284, 0, 150, 12, 2) ∈ lX12 := List.mem_of_getElem? (i := 37) rfl
theorem le_287 : (287, 0, 178, 12, 2) ∈ lX12 := List.mem_of_getElem? (i := 38) rfl
theorem le_290 : (290, 0, 134, 12, 2) ∈ lX12 := List.mem_of_getElem? (i := 39) rfl
theorem le_293 : (293, 0, 176, 12, 1) ∈ lX12 := List.mem_of_getElem? (i := 40) rfl
theorem le_299 : (299, 0, 81, 12, 3) ∈ lX12 := List.mem_of_getElem? (i := 41) rfl
theorem le_302 : (302, 0, 89, 12, 1) ∈ lX12 := List.mem_of_getElem? (i := 42) rfl
theorem le_305 : (305, 0, 167, 12, 1) ∈ lX12 := List.mem_of_getElem? (i := 43) rfl
theorem le_312 : (312, 1, 90, 0, 1) ∈ lX12 := List.mem_of_getElem? (i := 44) rfl
theorem le_319 : (319, 0, 114, 12, 3) ∈ lX12 := List.mem_of_getElem? (i := 45) rfl
theorem le_328 : (328, 0, 145, 12, 2) ∈ lX12 := List.mem_of_getElem? (i := 46) rfl
theorem le_331 : (331, 0, 139, 12, 2) ∈ lX12 := List.mem_of_getElem? (i := 47) rfl
theorem le_337 : (337, 1, 188, 0, 3) ∈ lX12 := List.mem_of_getElem? (i := 48) rfl
theorem le_341 : (341, 1, 122, 0, 3) ∈ lX12 := List.mem_of_getElem? (i := 49) rfl
theorem le_345 : (345, 0, 184, 12, 1) ∈ lX12 := List.mem_of_getElem? (i := 50) rfl
theorem le_348 : (348, 0, 98, 12, 2) ∈ lX12 := List.mem_of_getElem? (i := 51) rfl
theorem le_354 : (354, 0, 201, 12, 2) ∈ lX12 := List.mem_of_getElem? (i := 52) rfl
theorem le_357 : (357, 0, 169, 12, 7) ∈ lX12 := List.mem_of_getElem? (i := 53) rfl
theorem le_361 : (361, 0, 197, 12, 3) ∈ lX12 := List.mem_of_getElem? (i := 54) rfl
theorem le_364 : (364, 0, 72, 12, 3) ∈ lX12 := List.mem_of_getElem? (i := 55) rfl
theorem le_370 : (370, 0, 202, 12, 3) ∈ lX12 := List.mem_of_getElem? (i := 56) rfl
theorem le_376 : (376, 0, 183, 12, 3) ∈ lX12 := List.mem_of_getElem? (i := 57) rfl
theorem le_379 : (379, 0, 164, 12, 2) ∈ lX12 := List.mem_of_getElem? (i := 58) rfl
theorem le_382 : (382, 0, 163, 12, 1) ∈ lX12 := List.mem_of_getElem? (i := 59) rfl
theorem le_385 : (385, 0, 95, 12, 1) ∈ lX12 := List.mem_of_getElem? (i := 60) rfl
theorem le_388 : (388, 0, 133, 12, 1) ∈ lX12 := List.mem_of_getElem? (i := 61) rfl
theorem le_391 : (391, 0, 154, 12, 1) ∈ lX12 := List.mem_of_getElem? (i := 62) rfl
theorem le_394 : (394, 0, 156, 12, 1) ∈ lX12 := List.mem_of_getElem? (i := 63) rfl
theorem le_397 : (397, 0, 129, 12, 2) ∈ lX12 := List.mem_of_getElem? (i := 64) rfl
theorem le_400 : (400, 0, 86, 12, 3) ∈ lX12 := List.mem_of_getElem? (i := 65) rfl
theorem le_403 : (403, 0, 87, 12, 3) ∈ lX12 := List.mem_of_getElem? (i := 66) rfl
theorem le_406 : (406, 0, 173, 12, 3) ∈ lX12 := List.mem_of_getElem? (i := 67) rfl
theorem le_409 : (409, 0, 88, 12, 4) ∈ lX12 := List.mem_of_getElem? (i := 68) rfl
theorem le_412 : (412, 0, 179, 12, 4) ∈ lX12 := List.mem_of_getElem? (i := 69) rfl
theorem le_415 : (415, 0, 103, 12, 4) ∈ lX12 := List.mem_of_getElem? (i := 70) rfl
theorem le_418 : (418, 0, 168, 12, 3) ∈ lX12 := List.mem_of_getElem? (i := 71) rfl
theorem le_421 : (421, 0, 158, 12, 5) ∈ lX12 := List.mem_of_getElem? (i := 72) rfl
theorem le_425 : (425, 0, 200, 12, 3) ∈ lX12 := List.mem_of_getElem? (i := 73) rfl
theorem le_428 : (428, 0, 115, 12, 3) ∈ lX12 := List.mem_of_getElem? (i := 74) rfl
theorem le_431 : (431, 0, 172, 12, 3) ∈ lX12 := List.mem_of_getElem? (i := 75) rfl
theorem le_434 : (434, 0, 177, 12, 4) ∈ lX12 := List.mem_of_getElem? (i := 76) rfl
theorem le_437 : (437, 0, 161, 12, 3) ∈ lX12 := List.mem_of_getElem? (i := 77) rfl
theorem le_440 : (440, 0, 74, 12, 2) ∈ lX12 := List.mem_of_getElem? (i := 78) rfl
theorem le_443 : (443, 0, 130, 12, 2) ∈ lX12 := List.mem_of_getElem? (i := 79) rfl
theorem le_446 : (446, 1, 73, 0, 1) ∈ lX12 := List.mem_of_getElem? (i := 80) rfl
theorem le_449 : (449, 0, 117, 12, 3) ∈ lX12 := List.mem_of_getElem? (i := 81) rfl
theorem le_452 : (452, 0, 157, 12, 2) ∈ lX12 := List.mem_of_getElem? (i := 82) rfl
theorem le_455 : (455, 0, 195, 12, 3) ∈ lX12 := List.mem_of_getElem? (i := 83) rfl
theorem le_459 : (459, 0, 76, 12, 1) ∈ lX12 := List.mem_of_getElem? (i := 84) rfl
theorem le_462 : (462, 0, 155, 12, 1) ∈ lX12 := List.mem_of_getElem? (i := 85) rfl
theorem le_465 : (465, 0, 162, 12, 1) ∈ lX12 := List.mem_of_getElem? (i := 86) rfl
theorem le_468 : (468, 0, 181, 12, 2) ∈ lX12 := List.mem_of_getElem? (i := 87) rfl
theorem le_472 : (472, 0, 182, 12, 4) ∈ lX12 := List.mem_of_getElem? (i := 88) rfl
theorem le_475 : (475, 1, 80, 0, 1) ∈ lX12 := List.mem_of_getElem? (i := 89) rfl
theorem le_478 : (478, 0, 135, 12, 3) ∈ lX12 := List.mem_of_getElem? (i := 90) rfl
theorem le_481 : (481, 0, 109, 12, 2) ∈ lX12 := List.mem_of_getElem? (i := 91) rfl
theorem le_484 : (484, 0, 144, 12, 2) ∈ lX12 := List.mem_of_getElem? (i := 92) rfl
theorem le_487 : (487, 0, 85, 12, 3) ∈ lX12 := List.mem_of_getElem? (i := 93) rfl
theorem le_490 : (490, 0, 108, 12, 3) ∈ lX12 := List.mem_of_getElem? (i := 94) rfl
theorem le_493 : (493, 0, 143, 12, 3) ∈ lX12 := List.mem_of_getElem? (i := 95) rfl
theorem le_496 : (496, 0, 142, 12, 2) ∈ lX12 := List.mem_of_getElem? (i := 96) rfl
theorem le_503 : (503, 1, 91, 0, 2) ∈ lX12 := List.mem_of_getElem? (i := 97) rfl
theorem le_507 : (507, 0, 100, 12, 3) ∈ lX12 := List.mem_of_getElem? (i := 98) rfl
theorem le_511 : (511, 0, 187, 12, 2) ∈ lX12 := List.mem_of_getElem? (i := 99) rfl
theorem fe_7 : (7, (12, 0, 3, true)) ∈ fX12 := List.mem_of_getElem? (i := 0) rfl
theorem fe_13 : (13, (12, 1, 3, true)) ∈ fX12 := List.mem_of_getElem? (i := 1) rfl
theorem fe_16 : (16, (12, 2, 3, true)) ∈ fX12 := List.mem_of_getElem? (i := 2) rfl
theorem fe_19 : (19, (12, 3, 3, true)) ∈ fX12 := List.mem_of_getElem? (i := 3) rfl
theorem fe_22 : (22, (12, 5, 0, false)) ∈ fX12 := List.mem_of_getElem? (i := 4) rfl
theorem fe_26 : (26, (12, 6, 0, false)) ∈ fX12 := List.mem_of_getElem? (i := 5) rfl
theorem fe_29 : (29, (12, 15, 3, true)) ∈ fX12 := List.mem_of_getElem? (i := 6) rfl
theorem fe_32 : (32, (12, 16, 3, true)) ∈ fX12 := List.mem_of_getElem? (i := 7) rfl
theorem fe_35 : (35, (12, 22, 3, true)) ∈ fX12 := List.mem_of_getElem? (i := 8) rfl
theorem fe_38 : (38, (12, 24, 0, false)) ∈ fX12 := List.mem_of_getElem? (i := 9) rfl
theorem fe_41 : (41, (12, 25, 3, true)) ∈ fX12 := List.mem_of_getElem? (i := 10) rfl
theorem fe_45 : (45, (12, 26, 3, true)) ∈ fX12 := List.mem_of_getElem? (i := 11) rfl
theorem fe_49 : (49, (12, 27, 3, true)) ∈ fX12 := List.mem_of_getElem? (i := 12) rfl
theorem fe_52 : (52, (12, 28, 3, true)) ∈ fX12 := List.mem_of_getElem? (i := 13) rfl
theorem fe_55 : (55, (12, 29, 3, true)) ∈ fX12 := List.mem_of_getElem? (i := 14) rfl
theorem fe_58 : (58, (12, 32, 3, true)) ∈ fX12 := List.mem_of_getElem? (i := 15) rfl
theorem fe_61 : (61, (12, 33, 3, true)) ∈ fX12 := List.mem_of_getElem? (i := 16) rfl
theorem fe_64 : (64, (12, 34, 3, true)) ∈ fX12 := List.mem_of_getElem? (i := 17) rfl
theorem fe_67 : (67, (12, 37, 0, false)) ∈ fX12 := List.mem_of_getElem? (i := 18) rfl
theorem fe_70 : (70, (12, 39, 3, true)) ∈ fX12 := List.mem_of_getElem? (i := 19) rfl
theorem fe_73 : (73, (12, 41, 3, true)) ∈ fX12 := List.mem_of_getElem? (i := 20) rfl
theorem fe_79 : (79, (12, 43, 3, true)) ∈ fX12 := List.mem_of_getElem? (i := 21) rfl
theorem fe_82 : (82, (12, 44, 3, true)) ∈ fX12 := List.mem_of_getElem? (i := 22) rfl
theorem fe_85 : (85, (12, 45, 3, true)) ∈ fX12 := List.mem_of_getElem? (i := 23) rfl
theorem fe_88 : (88, (12, 46, 3, true)) ∈ fX12 := List.mem_of_getElem? (i := 24) rfl
theorem fe_91 : (91, (12, 47, 3, true)) ∈ fX12 := List.mem_of_getElem? (i := 25) rfl
theorem fe_94 : (94, (12, 48, 3, true)) ∈ fX12 := List.mem_of_getElem? (i := 26) rfl
theorem fe_97 : (97, (12, 49, 3, true)) ∈ fX12 := List.mem_of_getElem? (i := 27) rfl
theorem fe_100 : (100, (12, 50, 3, true)) ∈ fX12 := List.mem_of_getElem? (i := 28) rfl
theorem fe_103 : (103, (12, 51, 3, true)) ∈ fX12 := List.mem_of_getElem? (i := 29) rfl
theorem fe_106 : (106, (12, 52, 3, true)) ∈ fX12 := List.mem_of_getElem? (i := 30) rfl
theorem fe_133 : (133, (12, 4, 0, false)) ∈ fX12 := List.mem_of_getElem? (i := 31) rfl
theorem fe_140 : (140, (12, 7, 0, false)) ∈ fX12 := List.mem_of_getElem? (i := 32) rfl
theorem fe_147 : (147, (12, 8, 0, false)) ∈ fX12 := List.mem_of_getElem? (i := 33) rfl
theorem fe_150 : (150, (12, 9, 0, false)) ∈ fX12 := List.mem_of_getElem? (i := 34) rfl
theorem fe_156 : (156, (12, 10, 0, false)) ∈ fX12 := List.mem_of_getElem? (i := 35) rfl
theorem fe_163 : (163, (12, 11, 2, false)) ∈ fX12 := List.mem_of_getElem? (i := 36) rfl
theorem fe_188 : (188, (12, 12, 0, false)) ∈ fX12 := List.mem_of_getElem? (i := 37) rfl
theorem fe_191 : (191, (12, 13, 0, false)) ∈ fX12 := List.mem_of_getElem? (i := 38) rfl
theorem fe_194 : (194, (12, 14, 0, false)) ∈ fX12 := List.mem_of_getElem? (i := 39) rfl
theorem fe_197 : (197, (12, 19, 0, false)) ∈ fX12 := List.mem_of_getElem? (i := 40) rfl
theorem fe_200 : (200, (12, 17, 0, false)) ∈ fX12 := List.mem_of_getElem? (i := 41) rfl
theorem fe_210 : (210, (12, 18, 0, false)) ∈ fX12 := List.mem_of_getElem? (i := 42) rfl
theorem fe_226 : (226, (12, 20, 1, false)) ∈ fX12 := List.mem_of_getElem? (i := 43) rfl
theorem fe_296 : (296, (12, 21, 0, false)) ∈ fX12 := List.mem_of_getElem? (i := 44) rfl
theorem fe_316 : (316, (12, 30, 0, false)) ∈ fX12 := List.mem_of_getElem? (i := 45) rfl
theorem fe_322 : (322, (12, 23, 0, false)) ∈ fX12 := List.mem_of_getElem? (i := 46) rfl
theorem fe_325 : (325, (12, 31, 0, false)) ∈ fX12 := List.mem_of_getElem? (i := 47) rfl
theorem fe_334 : (334, (12, 35, 0, false)) ∈ fX12 := List.mem_of_getElem? (i := 48) rfl
theorem fe_351 : (351, (12, 36, 0, false)) ∈ fX12 := List.mem_of_getElem? (i := 49) rfl
theorem fe_367 : (367, (12, 38, 1, false)) ∈ fX12 := List.mem_of_getElem? (i := 50) rfl
theorem fe_373 : (373, (12, 40, 0, false)) ∈ fX12 := List.mem_of_getElem? (i := 51) rfl
