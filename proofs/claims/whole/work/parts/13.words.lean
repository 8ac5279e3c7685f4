abbrev mX0_isStreamName : sjM := (cX0_isStreamName, RX0, 1, some .boolean, "isStreamName", { frames := 0, cells := 0, slots := 0, locals := 0 })
abbrev mX0_isDigit : sjM := (cX0_isDigit, RX0, 1, some .boolean, "isDigit", { frames := 0, cells := 0, slots := 0, locals := 0 })
abbrev mX0_isFront : sjM := (cX0_isFront, RX0, 1, some .boolean, "isFront", { frames := 0, cells := 0, slots := 0, locals := 0 })
abbrev mX0_isLeaf : sjM := (cX0_isLeaf, RX0, 1, some .boolean, "isLeaf", { frames := 1, cells := 0, slots := 0, locals := 20 })
abbrev mX0_isPair : sjM := (cX0_isPair, RX0, 1, some .boolean, "isPair", { frames := 0, cells := 0, slots := 0, locals := 0 })
abbrev mX0_isPlain : sjM := (cX0_isPlain, RX0, 1, some .boolean, "isPlain", { frames := 0, cells := 0, slots := 0, locals := 0 })
abbrev mX0_operands : sjM := (cX0_operands, RX0, 1, some .int, "operands", { frames := 2, cells := 0, slots := 0, locals := 40 })
abbrev mX0_endsOf : sjM := (cX0_endsOf, RX0, 3, some (.array .int), "endsOf", { frames := 3, cells := 1, slots := 120, locals := 63 })
abbrev mX0_findEnds : sjM := (cX0_findEnds, RX0, 4, none, "findEnds", { frames := 2, cells := 0, slots := 0, locals := 40 })
abbrev mX0_findMentions : sjM := (cX0_findMentions, RX0, 6, some (.array .int), "findMentions", { frames := 1, cells := 1, slots := 120, locals := 20 })
abbrev mX1_init : sjM := (cX1_init, RX1, 1, none, "<init>", { frames := 1, cells := 3, slots := 2232, locals := 20 })
abbrev mX1_greatestThrough : sjM := (cX1_greatestThrough, RX1, 8, some .int, "greatestThrough", { frames := 4, cells := 0, slots := 0, locals := 91 })
abbrev mX1_goOn : sjM := (cX1_goOn, RX1, 7, none, "goOn", { frames := 1, cells := 0, slots := 0, locals := 21 })
abbrev mX1_findSteps : sjM := (cX1_findSteps, RX1, 9, none, "findSteps", { frames := 3, cells := 0, slots := 0, locals := 63 })
abbrev mX1_findShifts : sjM := (cX1_findShifts, RX1, 4, none, "findShifts", { frames := 2, cells := 0, slots := 0, locals := 40 })
abbrev mX2_init : sjM := (cX2_init, RX2, 1, none, "<init>", { frames := 1, cells := 1, slots := 8, locals := 20 })
abbrev mX2_copyFrom : sjM := (cX2_copyFrom, RX2, 3, none, "copyFrom", { frames := 0, cells := 0, slots := 0, locals := 0 })
abbrev mX2_count : sjM := (cX2_count, RX2, 3, some .int, "count", { frames := 0, cells := 0, slots := 0, locals := 0 })
abbrev mX2_totalSize : sjM := (cX2_totalSize, RX2, 3, some .int, "totalSize", { frames := 0, cells := 0, slots := 0, locals := 0 })
abbrev mX2_isPlain : sjM := (cX2_isPlain, RX2, 2, some .boolean, "isPlain", { frames := 2, cells := 0, slots := 0, locals := 41 })
abbrev mX3_init : sjM := (cX3_init, RX3, 1, none, "<init>", { frames := 1, cells := 1, slots := 8, locals := 20 })
abbrev mX3_record : sjM := (cX3_record, RX3, 4, none, "record", { frames := 2, cells := 2, slots := 10, locals := 40 })
abbrev mX3_restore : sjM := (cX3_restore, RX3, 3, none, "restore", { frames := 1, cells := 0, slots := 0, locals := 22 })
abbrev mX4_init : sjM := (cX4_init, RX4, 1, none, "<init>", { frames := 1, cells := 3, slots := 360, locals := 20 })
abbrev mX4_load : sjM := (cX4_load, RX4, 2, none, "load", { frames := 1, cells := 0, slots := 0, locals := 26 })
abbrev mX4_result : sjM := (cX4_result, RX4, 1, some (.object "StreamJudge$Term"), "result", { frames := 5, cells := 4, slots := 364, locals := 107 })
abbrev mX4_applyAll : sjM := (cX4_applyAll, RX4, 3, some .int, "applyAll", { frames := 4, cells := 0, slots := 0, locals := 95 })
abbrev mX4_firstMatch : sjM := (cX4_firstMatch, RX4, 2, some .int, "firstMatch", { frames := 3, cells := 0, slots := 0, locals := 68 })
abbrev mX4_matches : sjM := (cX4_matches, RX4, 3, some .boolean, "matches", { frames := 2, cells := 0, slots := 0, locals := 46 })
abbrev mX4_isSplitTwin : sjM := (cX4_isSplitTwin, RX4, 3, some .boolean, "isSplitTwin", { frames := 1, cells := 0, slots := 0, locals := 24 })
abbrev mX4_areWrittenAlike : sjM := (cX4_areWrittenAlike, RX4, 5, some .boolean, "areWrittenAlike", { frames := 0, cells := 0, slots := 0, locals := 0 })
abbrev mX4_apply : sjM := (cX4_apply, RX4, 3, some .boolean, "apply", { frames := 3, cells := 0, slots := 0, locals := 73 })
abbrev mX4_keepFirst : sjM := (cX4_keepFirst, RX4, 3, none, "keepFirst", { frames := 2, cells := 0, slots := 0, locals := 48 })
abbrev mX4_pushTail : sjM := (cX4_pushTail, RX4, 3, some .boolean, "pushTail", { frames := 2, cells := 0, slots := 0, locals := 51 })
abbrev mX4_turnZip : sjM := (cX4_turnZip, RX4, 6, none, "turnZip", { frames := 1, cells := 0, slots := 0, locals := 26 })
abbrev mX4_cut : sjM := (cX4_cut, RX4, 3, none, "cut", { frames := 1, cells := 0, slots := 0, locals := 26 })
abbrev mX4_putTail : sjM := (cX4_putTail, RX4, 2, none, "putTail", { frames := 1, cells := 0, slots := 0, locals := 26 })
abbrev mX5_init : sjM := (cX5_init, RX5, 3, none, "<init>", { frames := 4, cells := 3, slots := 360, locals := 85 })
abbrev mX5_streamAt : sjM := (cX5_streamAt, RX5, 2, some .int, "streamAt", { frames := 0, cells := 0, slots := 0, locals := 0 })
abbrev mX5_byteAt : sjM := (cX5_byteAt, RX5, 6, some .int, "byteAt", { frames := 1, cells := 0, slots := 0, locals := 20 })
abbrev mX5_streamSet : sjM := (cX5_streamSet, RX5, 6, some .int, "streamSet", { frames := 1, cells := 0, slots := 0, locals := 21 })
abbrev mX5_isPlain : sjM := (cX5_isPlain, RX5, 2, some .boolean, "isPlain", { frames := 1, cells := 0, slots := 0, locals := 20 })
abbrev mX5_sizeWith : sjM := (cX5_sizeWith, RX5, 8, some .int, "sizeWith", { frames := 1, cells := 0, slots := 0, locals := 21 })
abbrev mX5_with : sjM := (cX5_with, RX5, 6, some (.object "StreamJudge$Term"), "with", { frames := 5, cells := 5, slots := 484, locals := 107 })
abbrev mX6_init : sjM := (cX6_init, RX6, 1, none, "<init>", { frames := 1, cells := 2, slots := 160, locals := 20 })
abbrev mX6_append : sjM := (cX6_append, RX6, 2, some .int, "append", { frames := 0, cells := 0, slots := 0, locals := 0 })
abbrev mX6_empty : sjM := (cX6_empty, RX6, 2, some .int, "empty", { frames := 0, cells := 0, slots := 0, locals := 0 })
abbrev mX6_firstFault : sjM := (cX6_firstFault, RX6, 6, some .int, "firstFault", { frames := 3, cells := 0, slots := 0, locals := 60 })
abbrev mX6_read : sjM := (cX6_read, RX6, 5, some (.object "StreamJudge$Term"), "read", { frames := 5, cells := 4, slots := 364, locals := 107 })
abbrev mX7_init : sjM := (cX7_init, RX7, 3, none, "<init>", { frames := 1, cells := 1, slots := 3200, locals := 20 })
abbrev mX7_rankIn : sjM := (cX7_rankIn, RX7, 1, some .int, "rankIn", { frames := 0, cells := 0, slots := 0, locals := 0 })
abbrev mX7_forget : sjM := (cX7_forget, RX7, 1, none, "forget", { frames := 1, cells := 0, slots := 0, locals := 23 })
abbrev mX7_find : sjM := (cX7_find, RX7, 4, none, "find", { frames := 4, cells := 0, slots := 0, locals := 102 })
abbrev mX7_findAll : sjM := (cX7_findAll, RX7, 3, none, "findAll", { frames := 4, cells := 0, slots := 0, locals := 102 })
abbrev mX7_findUpToReach : sjM := (cX7_findUpToReach, RX7, 4, none, "findUpToReach", { frames := 4, cells := 0, slots := 0, locals := 102 })
abbrev mX7_at : sjM := (cX7_at, RX7, 4, some .int, "at", { frames := 0, cells := 0, slots := 0, locals := 0 })
abbrev mX7_rank : sjM := (cX7_rank, RX7, 3, some .int, "rank", { frames := 1, cells := 0, slots := 0, locals := 20 })
abbrev mX7_solve : sjM := (cX7_solve, RX7, 6, none, "solve", { frames := 3, cells := 0, slots := 0, locals := 77 })
abbrev mX7_settle : sjM := (cX7_settle, RX7, 9, some .int, "settle", { frames := 2, cells := 0, slots := 0, locals := 49 })
abbrev mX7_neededCell : sjM := (cX7_neededCell, RX7, 4, some .int, "neededCell", { frames := 1, cells := 0, slots := 0, locals := 21 })
abbrev mX7_collectNeeded : sjM := (cX7_collectNeeded, RX7, 6, some .int, "collectNeeded", { frames := 3, cells := 0, slots := 0, locals := 78 })
abbrev mX7_collectAtOnce : sjM := (cX7_collectAtOnce, RX7, 10, some .int, "collectAtOnce", { frames := 2, cells := 0, slots := 0, locals := 49 })
abbrev mX7_reach : sjM := (cX7_reach, RX7, 3, some .int, "reach", { frames := 1, cells := 0, slots := 0, locals := 23 })
abbrev mX7_countDifferent : sjM := (cX7_countDifferent, RX7, 5, some .int, "countDifferent", { frames := 2, cells := 0, slots := 0, locals := 45 })
abbrev mX7_sum : sjM := (cX7_sum, RX7, 5, some .int, "sum", { frames := 2, cells := 0, slots := 0, locals := 45 })
abbrev mX7_period : sjM := (cX7_period, RX7, 3, some .int, "period", { frames := 2, cells := 0, slots := 0, locals := 46 })
abbrev mX7_lengthBeforePeriod : sjM := (cX7_lengthBeforePeriod, RX7, 3, some .int, "lengthBeforePeriod", { frames := 3, cells := 0, slots := 0, locals := 68 })
abbrev mX7_lengthBefore : sjM := (cX7_lengthBefore, RX7, 4, some .int, "lengthBefore", { frames := 1, cells := 0, slots := 0, locals := 23 })
abbrev mX7_firstParting : sjM := (cX7_firstParting, RX7, 6, some .int, "firstParting", { frames := 1, cells := 0, slots := 0, locals := 23 })
abbrev mX7_alikeSet : sjM := (cX7_alikeSet, RX7, 5, some .int, "alikeSet", { frames := 2, cells := 0, slots := 0, locals := 48 })
abbrev mX7_firstDifference : sjM := (cX7_firstDifference, RX7, 4, some .int, "firstDifference", { frames := 1, cells := 0, slots := 0, locals := 23 })
abbrev mX8_init : sjM := (cX8_init, RX8, 1, none, "<init>", { frames := 1, cells := 4, slots := 3490, locals := 20 })
abbrev mX8_spread : sjM := (cX8_spread, RX8, 4, some .boolean, "spread", { frames := 1, cells := 0, slots := 0, locals := 26 })
abbrev mX8_spreadPart : sjM := (cX8_spreadPart, RX8, 7, none, "spreadPart", { frames := 0, cells := 0, slots := 0, locals := 0 })
abbrev mX8_isNeeded : sjM := (cX8_isNeeded, RX8, 2, some .boolean, "isNeeded", { frames := 0, cells := 0, slots := 0, locals := 0 })
abbrev mX8_evaluate : sjM := (cX8_evaluate, RX8, 5, some .int, "evaluate", { frames := 1, cells := 0, slots := 0, locals := 25 })
abbrev mX8_resultOf : sjM := (cX8_resultOf, RX8, 6, some .int, "resultOf", { frames := 0, cells := 0, slots := 0, locals := 0 })
abbrev mX8_clearSeen : sjM := (cX8_clearSeen, RX8, 1, none, "clearSeen", { frames := 1, cells := 0, slots := 0, locals := 24 })
abbrev mX8_see : sjM := (cX8_see, RX8, 4, some .boolean, "see", { frames := 0, cells := 0, slots := 0, locals := 0 })
abbrev mX8_greatestIndex : sjM := (cX8_greatestIndex, RX8, 4, some .int, "greatestIndex", { frames := 1, cells := 0, slots := 0, locals := 21 })
abbrev mX8_countStreams : sjM := (cX8_countStreams, RX8, 4, some .int, "countStreams", { frames := 1, cells := 0, slots := 0, locals := 20 })
abbrev mX9_init : sjM := (cX9_init, RX9, 1, none, "<init>", { frames := 2, cells := 13, slots := 552, locals := 40 })
abbrev mX9_write : sjM := (cX9_write, RX9, 2, some .int, "write", { frames := 1, cells := 0, slots := 0, locals := 21 })
abbrev mX9_wipe : sjM := (cX9_wipe, RX9, 1, some .int, "wipe", { frames := 1, cells := 0, slots := 0, locals := 21 })
abbrev mX9_fault : sjM := (cX9_fault, RX9, 1, some .int, "fault", { frames := 4, cells := 0, slots := 0, locals := 85 })
abbrev mX9_define : sjM := (cX9_define, RX9, 3, some .int, "define", { frames := 6, cells := 6, slots := 374, locals := 131 })
abbrev mX9_undefine : sjM := (cX9_undefine, RX9, 3, some .int, "undefine", { frames := 4, cells := 2, slots := 10, locals := 83 })
abbrev mX9_setModulus : sjM := (cX9_setModulus, RX9, 3, some .int, "setModulus", { frames := 4, cells := 2, slots := 10, locals := 83 })
abbrev mX9_insert : sjM := (cX9_insert, RX9, 6, some .int, "insert", { frames := 6, cells := 7, slots := 494, locals := 132 })
abbrev mX9_simplify : sjM := (cX9_simplify, RX9, 4, some .int, "simplify", { frames := 6, cells := 6, slots := 374, locals := 127 })
abbrev mX9_undo : sjM := (cX9_undo, RX9, 1, some .int, "undo", { frames := 3, cells := 0, slots := 0, locals := 63 })
abbrev mX9_told : sjM := (cX9_told, RX9, 2, some .int, "told", { frames := 6, cells := 7, slots := 6698, locals := 148 })
abbrev mX9_listing : sjM := (cX9_listing, RX9, 4, some .int, "listing", { frames := 2, cells := 0, slots := 0, locals := 45 })
abbrev mX9_uses : sjM := (cX9_uses, RX9, 3, some .int, "uses", { frames := 2, cells := 0, slots := 0, locals := 46 })
abbrev mX9_cycle : sjM := (cX9_cycle, RX9, 2, some .int, "cycle", { frames := 5, cells := 4, slots := 2235, locals := 118 })
abbrev mX9_value : sjM := (cX9_value, RX9, 4, some .int, "value", { frames := 5, cells := 7, slots := 6698, locals := 125 })
abbrev mX9_stream : sjM := (cX9_stream, RX9, 4, some .int, "stream", { frames := 5, cells := 7, slots := 6698, locals := 125 })
abbrev mX9_parting : sjM := (cX9_parting, RX9, 4, some .int, "parting", { frames := 5, cells := 7, slots := 6698, locals := 124 })
abbrev mX9_alike : sjM := (cX9_alike, RX9, 4, some .int, "alike", { frames := 5, cells := 7, slots := 6698, locals := 124 })
abbrev mX9_needs : sjM := (cX9_needs, RX9, 6, some .int, "needs", { frames := 5, cells := 12, slots := 10192, locals := 125 })
abbrev mX9_keep : sjM := (cX9_keep, RX9, 4, some .int, "keep", { frames := 2, cells := 2, slots := 10, locals := 43 })
abbrev mX9_back : sjM := (cX9_back, RX9, 3, some .int, "back", { frames := 4, cells := 2, slots := 10, locals := 83 })
abbrev mX9_changed : sjM := (cX9_changed, RX9, 6, some .int, "changed", { frames := 5, cells := 14, slots := 13396, locals := 124 })
abbrev mX9_isStream : sjM := (cX9_isStream, RX9, 1, some .boolean, "isStream", { frames := 0, cells := 0, slots := 0, locals := 0 })
abbrev mX9_isIndex : sjM := (cX9_isIndex, RX9, 1, some .boolean, "isIndex", { frames := 0, cells := 0, slots := 0, locals := 0 })
abbrev mX9_isImage : sjM := (cX9_isImage, RX9, 1, some .boolean, "isImage", { frames := 0, cells := 0, slots := 0, locals := 0 })
abbrev mX9_countFull : sjM := (cX9_countFull, RX9, 4, some .int, "countFull", { frames := 5, cells := 7, slots := 6698, locals := 125 })
abbrev mX9_beginChange : sjM := (cX9_beginChange, RX9, 1, none, "beginChange", { frames := 3, cells := 2, slots := 10, locals := 63 })
abbrev mX9_forgetPresentValues : sjM := (cX9_forgetPresentValues, RX9, 1, none, "forgetPresentValues", { frames := 2, cells := 0, slots := 0, locals := 43 })
abbrev mX9_sharedWorkspace : sjM := (cX9_sharedWorkspace, RX9, 1, some (.object "StreamJudge$Workspace"), "sharedWorkspace", { frames := 2, cells := 5, slots := 3494, locals := 40 })
abbrev mX9_valuesNow : sjM := (cX9_valuesNow, RX9, 1, some (.object "StreamJudge$Values"), "valuesNow", { frames := 3, cells := 7, slots := 6698, locals := 60 })
abbrev mX10_init : sjM := (cX10_init, RX10, 1, none, "<init>", { frames := 1, cells := 21, slots := 41264, locals := 20 })
abbrev mX10_isIn : sjM := (cX10_isIn, RX10, 3, some .boolean, "isIn", { frames := 0, cells := 0, slots := 0, locals := 0 })
abbrev mX10_isStream : sjM := (cX10_isStream, RX10, 1, some .boolean, "isStream", { frames := 1, cells := 0, slots := 0, locals := 22 })
abbrev mX10_begin : sjM := (cX10_begin, RX10, 1, some .int, "begin", { frames := 0, cells := 0, slots := 0, locals := 0 })
abbrev mX10_bytes : sjM := (cX10_bytes, RX10, 2, some .int, "bytes", { frames := 0, cells := 0, slots := 0, locals := 0 })
abbrev mX10_has : sjM := (cX10_has, RX10, 2, some .boolean, "has", { frames := 1, cells := 0, slots := 0, locals := 21 })
abbrev mX10_remember : sjM := (cX10_remember, RX10, 2, none, "remember", { frames := 0, cells := 0, slots := 0, locals := 0 })
abbrev mX10_write : sjM := (cX10_write, RX10, 2, some .int, "write", { frames := 1, cells := 0, slots := 0, locals := 22 })
abbrev mX10_wipe : sjM := (cX10_wipe, RX10, 2, some .int, "wipe", { frames := 0, cells := 0, slots := 0, locals := 0 })
abbrev mX10_isDigit : sjM := (cX10_isDigit, RX10, 1, some .boolean, "isDigit", { frames := 0, cells := 0, slots := 0, locals := 0 })
abbrev mX10_isLetter : sjM := (cX10_isLetter, RX10, 1, some .boolean, "isLetter", { frames := 0, cells := 0, slots := 0, locals := 0 })
abbrev mX10_parts : sjM := (cX10_parts, RX10, 1, some .int, "parts", { frames := 1, cells := 0, slots := 0, locals := 20 })
abbrev mX10_fault : sjM := (cX10_fault, RX10, 5, some .int, "fault", { frames := 2, cells := 0, slots := 0, locals := 40 })
abbrev mX10_sizeOf : sjM := (cX10_sizeOf, RX10, 4, some .int, "sizeOf", { frames := 1, cells := 0, slots := 0, locals := 21 })
abbrev mX10_skip : sjM := (cX10_skip, RX10, 4, some .int, "skip", { frames := 2, cells := 0, slots := 0, locals := 40 })
abbrev mX10_define : sjM := (cX10_define, RX10, 3, some .int, "define", { frames := 3, cells := 0, slots := 0, locals := 64 })
abbrev mX10_undefine : sjM := (cX10_undefine, RX10, 3, some .int, "undefine", { frames := 2, cells := 0, slots := 0, locals := 44 })
abbrev mX10_setModulus : sjM := (cX10_setModulus, RX10, 3, some .int, "setModulus", { frames := 1, cells := 0, slots := 0, locals := 22 })
abbrev mX10_occurrences : sjM := (cX10_occurrences, RX10, 5, some .int, "occurrences", { frames := 1, cells := 0, slots := 0, locals := 21 })
abbrev mX10_insert : sjM := (cX10_insert, RX10, 7, some .int, "insert", { frames := 2, cells := 0, slots := 0, locals := 45 })
abbrev mX10_lay : sjM := (cX10_lay, RX10, 2, none, "lay", { frames := 0, cells := 0, slots := 0, locals := 0 })
abbrev mX10_layPart : sjM := (cX10_layPart, RX10, 4, none, "layPart", { frames := 1, cells := 0, slots := 0, locals := 21 })
abbrev mX10_isSamePart : sjM := (cX10_isSamePart, RX10, 5, some .boolean, "isSamePart", { frames := 0, cells := 0, slots := 0, locals := 0 })
abbrev mX10_layTail : sjM := (cX10_layTail, RX10, 5, some .boolean, "layTail", { frames := 3, cells := 0, slots := 0, locals := 63 })
abbrev mX10_layEvery : sjM := (cX10_layEvery, RX10, 5, some .boolean, "layEvery", { frames := 3, cells := 0, slots := 0, locals := 63 })
abbrev mX10_layZip : sjM := (cX10_layZip, RX10, 6, some .boolean, "layZip", { frames := 3, cells := 0, slots := 0, locals := 63 })
abbrev mX10_layRule : sjM := (cX10_layRule, RX10, 2, some .boolean, "layRule", { frames := 4, cells := 0, slots := 0, locals := 88 })
abbrev mX10_simplifies : sjM := (cX10_simplifies, RX10, 3, some .boolean, "simplifies", { frames := 5, cells := 0, slots := 0, locals := 109 })
abbrev mX10_oldSize : sjM := (cX10_oldSize, RX10, 3, some .int, "oldSize", { frames := 0, cells := 0, slots := 0, locals := 0 })
abbrev mX10_simplify : sjM := (cX10_simplify, RX10, 4, some .int, "simplify", { frames := 6, cells := 0, slots := 0, locals := 131 })
abbrev mX10_undo : sjM := (cX10_undo, RX10, 2, some .int, "undo", { frames := 0, cells := 0, slots := 0, locals := 0 })
abbrev mX10_descend : sjM := (cX10_descend, RX10, 2, some .int, "descend", { frames := 3, cells := 0, slots := 0, locals := 63 })
abbrev mX10_compute : sjM := (cX10_compute, RX10, 6, some .int, "compute", { frames := 4, cells := 0, slots := 0, locals := 84 })
abbrev mX10_find : sjM := (cX10_find, RX10, 5, some .boolean, "find", { frames := 5, cells := 0, slots := 0, locals := 109 })
abbrev mX10_layValues : sjM := (cX10_layValues, RX10, 4, none, "layValues", { frames := 6, cells := 0, slots := 0, locals := 133 })
abbrev mX10_at : sjM := (cX10_at, RX10, 3, some .int, "at", { frames := 0, cells := 0, slots := 0, locals := 0 })
abbrev mX10_reach : sjM := (cX10_reach, RX10, 3, some .int, "reach", { frames := 1, cells := 0, slots := 0, locals := 22 })
abbrev mX10_defined : sjM := (cX10_defined, RX10, 3, some .int, "defined", { frames := 2, cells := 0, slots := 0, locals := 42 })
abbrev mX10_isPlain : sjM := (cX10_isPlain, RX10, 5, some .boolean, "isPlain", { frames := 1, cells := 0, slots := 0, locals := 21 })
abbrev mX10_endless : sjM := (cX10_endless, RX10, 3, some .int, "endless", { frames := 7, cells := 0, slots := 0, locals := 156 })
abbrev mX10_allSizes : sjM := (cX10_allSizes, RX10, 3, some .int, "allSizes", { frames := 2, cells := 0, slots := 0, locals := 44 })
abbrev mX10_told : sjM := (cX10_told, RX10, 2, some .int, "told", { frames := 8, cells := 0, slots := 0, locals := 178 })
abbrev mX10_listing : sjM := (cX10_listing, RX10, 3, some .int, "listing", { frames := 2, cells := 0, slots := 0, locals := 42 })
abbrev mX10_uses : sjM := (cX10_uses, RX10, 4, some .int, "uses", { frames := 2, cells := 0, slots := 0, locals := 45 })
abbrev mX10_layShifts : sjM := (cX10_layShifts, RX10, 6, none, "layShifts", { frames := 1, cells := 0, slots := 0, locals := 21 })
abbrev mX10_greatestCycle : sjM := (cX10_greatestCycle, RX10, 7, some .int, "greatestCycle", { frames := 2, cells := 0, slots := 0, locals := 46 })
abbrev mX10_extend : sjM := (cX10_extend, RX10, 7, none, "extend", { frames := 0, cells := 0, slots := 0, locals := 0 })
abbrev mX10_cycle : sjM := (cX10_cycle, RX10, 3, some .int, "cycle", { frames := 3, cells := 0, slots := 0, locals := 72 })
abbrev mX10_value : sjM := (cX10_value, RX10, 3, some .int, "value", { frames := 7, cells := 0, slots := 0, locals := 156 })
abbrev mX10_differentValues : sjM := (cX10_differentValues, RX10, 6, some .int, "differentValues", { frames := 1, cells := 0, slots := 0, locals := 22 })
abbrev mX10_sumOf : sjM := (cX10_sumOf, RX10, 5, some .int, "sumOf", { frames := 1, cells := 0, slots := 0, locals := 22 })
abbrev mX10_ahead : sjM := (cX10_ahead, RX10, 4, some .int, "ahead", { frames := 1, cells := 0, slots := 0, locals := 22 })
abbrev mX10_period : sjM := (cX10_period, RX10, 4, some .int, "period", { frames := 2, cells := 0, slots := 0, locals := 45 })
abbrev mX10_stream : sjM := (cX10_stream, RX10, 3, some .int, "stream", { frames := 7, cells := 0, slots := 0, locals := 156 })
abbrev mX10_partingOf : sjM := (cX10_partingOf, RX10, 4, some .int, "partingOf", { frames := 1, cells := 0, slots := 0, locals := 22 })
abbrev mX10_parting : sjM := (cX10_parting, RX10, 3, some .int, "parting", { frames := 7, cells := 0, slots := 0, locals := 156 })
abbrev mX10_alike : sjM := (cX10_alike, RX10, 4, some .int, "alike", { frames := 7, cells := 0, slots := 0, locals := 156 })
abbrev mX10_gather : sjM := (cX10_gather, RX10, 6, some .int, "gather", { frames := 5, cells := 0, slots := 0, locals := 109 })
abbrev mX10_highestNeeded : sjM := (cX10_highestNeeded, RX10, 4, some .int, "highestNeeded", { frames := 0, cells := 0, slots := 0, locals := 0 })
abbrev mX10_streamsNeeded : sjM := (cX10_streamsNeeded, RX10, 6, some .int, "streamsNeeded", { frames := 0, cells := 0, slots := 0, locals := 0 })
abbrev mX10_needs : sjM := (cX10_needs, RX10, 5, some .int, "needs", { frames := 7, cells := 0, slots := 0, locals := 156 })
abbrev mX10_isImage : sjM := (cX10_isImage, RX10, 1, some .boolean, "isImage", { frames := 1, cells := 0, slots := 0, locals := 22 })
abbrev mX10_isKept : sjM := (cX10_isKept, RX10, 2, some .boolean, "isKept", { frames := 0, cells := 0, slots := 0, locals := 0 })
abbrev mX10_keep : sjM := (cX10_keep, RX10, 3, some .int, "keep", { frames := 3, cells := 0, slots := 0, locals := 64 })
abbrev mX10_back : sjM := (cX10_back, RX10, 3, some .int, "back", { frames := 3, cells := 0, slots := 0, locals := 64 })
abbrev mX10_changed : sjM := (cX10_changed, RX10, 4, some .int, "changed", { frames := 7, cells := 0, slots := 0, locals := 156 })
abbrev mJ6_bitCount_0f7a4 : sjM := (cJ6_bitCount_0f7a4, RJ6, 1, some .int, "bitCount", { frames := 0, cells := 0, slots := 0, locals := 0 })
abbrev mJ9_max_7cf53 : sjM := (cJ9_max_7cf53, RJ9, 2, some .int, "max", { frames := 0, cells := 0, slots := 0, locals := 0 })
abbrev mJ9_min_7cf53 : sjM := (cJ9_min_7cf53, RJ9, 2, some .int, "min", { frames := 0, cells := 0, slots := 0, locals := 0 })
abbrev mJ7_fill_d0a16 : sjM := (cJ7_fill_d0a16, RJ7, 5, none, "fill", { frames := 0, cells := 0, slots := 0, locals := 0 })
abbrev mJ7_fill_53178 : sjM := (cJ7_fill_53178, RJ7, 4, none, "fill", { frames := 0, cells := 0, slots := 0, locals := 0 })
abbrev mJ7_copyOf_59c91 : sjM := (cJ7_copyOf_59c91, RJ7, 3, some (.array .int), "copyOf", { frames := 1, cells := 1, slots := 120, locals := 26 })
abbrev mL_law : sjM := (cL_law, RL, 4, some .boolean, "law", room_1)
theorem wd_102 : sj_in (.arrayClass .int) := ⟨List.mem_of_getElem? (i := 102) (by decide +kernel), by decide +kernel⟩
theorem wa_int : sj_in (.arrayClass .int) := wd_102
theorem wd_483 : sj_in (.arrayClass .long) := ⟨List.mem_of_getElem? (i := 483) (by decide +kernel), by decide +kernel⟩
theorem wa_long : sj_in (.arrayClass .long) := wd_483
theorem wd_834 : sj_in (.arrayClass .boolean) := ⟨List.mem_of_getElem? (i := 834) (by decide +kernel), by decide +kernel⟩
theorem wa_boolean : sj_in (.arrayClass .boolean) := wd_834
theorem wd_110 : sj_in (.arrayOver (.object "StreamJudge$Term")) := ⟨List.mem_of_getElem? (i := 110) (by decide +kernel), by decide +kernel⟩
theorem wo_4 : sj_in (.arrayOver (.object "StreamJudge$Term")) := wd_110
theorem wd_130 : sj_in (.arrayOver (.object "StreamJudge$Equations")) := ⟨List.mem_of_getElem? (i := 130) (by decide +kernel), by decide +kernel⟩
theorem wo_1 : sj_in (.arrayOver (.object "StreamJudge$Equations")) := wd_130
theorem wd_162 : sj_in (.arrayOver (.object "StreamJudge$Values")) := ⟨List.mem_of_getElem? (i := 162) (by decide +kernel), by decide +kernel⟩
theorem wo_6 : sj_in (.arrayOver (.object "StreamJudge$Values")) := wd_162
theorem wd_575 : sj_in (.instantiable RX1 3) := ⟨List.mem_of_getElem? (i := 575) (by decide +kernel), by decide +kernel⟩
theorem wd_75 : sj_in (.initialized RX1) := ⟨List.mem_of_getElem? (i := 75) (by decide +kernel), by decide +kernel⟩
theorem wi_0 : sj_in (.instantiable RX1 3) := wd_575
theorem wz_0 : sj_in (.initialized RX1) := wd_75
theorem wd_104 : sj_in (.instantiable RX2 2) := ⟨List.mem_of_getElem? (i := 104) (by decide +kernel), by decide +kernel⟩
theorem wd_64 : sj_in (.initialized RX2) := ⟨List.mem_of_getElem? (i := 64) (by decide +kernel), by decide +kernel⟩
theorem wi_1 : sj_in (.instantiable RX2 2) := wd_104
theorem wz_1 : sj_in (.initialized RX2) := wd_64
theorem wd_124 : sj_in (.instantiable RX3 3) := ⟨List.mem_of_getElem? (i := 124) (by decide +kernel), by decide +kernel⟩
theorem wd_65 : sj_in (.initialized RX3) := ⟨List.mem_of_getElem? (i := 65) (by decide +kernel), by decide +kernel⟩
theorem wi_2 : sj_in (.instantiable RX3 3) := wd_124
theorem wz_2 : sj_in (.initialized RX3) := wd_65
theorem wd_143 : sj_in (.instantiable RX4 4) := ⟨List.mem_of_getElem? (i := 143) (by decide +kernel), by decide +kernel⟩
theorem wd_66 : sj_in (.initialized RX4) := ⟨List.mem_of_getElem? (i := 66) (by decide +kernel), by decide +kernel⟩
theorem wi_3 : sj_in (.instantiable RX4 4) := wd_143
theorem wz_3 : sj_in (.initialized RX4) := wd_66
theorem wd_243 : sj_in (.instantiable RX5 4) := ⟨List.mem_of_getElem? (i := 243) (by decide +kernel), by decide +kernel⟩
theorem wd_69 : sj_in (.initialized RX5) := ⟨List.mem_of_getElem? (i := 69) (by decide +kernel), by decide +kernel⟩
theorem wi_4 : sj_in (.instantiable RX5 4) := wd_243
theorem wz_4 : sj_in (.initialized RX5) := wd_69
theorem wd_86 : sj_in (.instantiable RX6 3) := ⟨List.mem_of_getElem? (i := 86) (by decide +kernel), by decide +kernel⟩
theorem wd_63 : sj_in (.initialized RX6) := ⟨List.mem_of_getElem? (i := 63) (by decide +kernel), by decide +kernel⟩
theorem wi_5 : sj_in (.instantiable RX6 3) := wd_86
theorem wz_5 : sj_in (.initialized RX6) := wd_63
theorem wd_457 : sj_in (.instantiable RX7 4) := ⟨List.mem_of_getElem? (i := 457) (by decide +kernel), by decide +kernel⟩
theorem wd_73 : sj_in (.initialized RX7) := ⟨List.mem_of_getElem? (i := 73) (by decide +kernel), by decide +kernel⟩
theorem wi_6 : sj_in (.instantiable RX7 4) := wd_457
theorem wz_6 : sj_in (.initialized RX7) := wd_73
theorem wd_463 : sj_in (.instantiable RX8 4) := ⟨List.mem_of_getElem? (i := 463) (by decide +kernel), by decide +kernel⟩
theorem wd_74 : sj_in (.initialized RX8) := ⟨List.mem_of_getElem? (i := 74) (by decide +kernel), by decide +kernel⟩
theorem wi_7 : sj_in (.instantiable RX8 4) := wd_463
theorem wz_7 : sj_in (.initialized RX8) := wd_74
theorem wd_78 : sj_in (.instantiable RX9 9) := ⟨List.mem_of_getElem? (i := 78) (by decide +kernel), by decide +kernel⟩
theorem wd_62 : sj_in (.initialized RX9) := ⟨List.mem_of_getElem? (i := 62) (by decide +kernel), by decide +kernel⟩
theorem wi_8 : sj_in (.instantiable RX9 9) := wd_78
theorem wz_8 : sj_in (.initialized RX9) := wd_62
theorem wd_735 : sj_in (.instantiable RX10 31) := ⟨List.mem_of_getElem? (i := 735) (by decide +kernel), by decide +kernel⟩
theorem wd_67 : sj_in (.initialized RX10) := ⟨List.mem_of_getElem? (i := 67) (by decide +kernel), by decide +kernel⟩
theorem wi_9 : sj_in (.instantiable RX10 31) := wd_735
theorem wz_9 : sj_in (.initialized RX10) := wd_67
theorem wd_83 : sj_in (.instanceMethod Lib.objectInit) := ⟨List.mem_of_getElem? (i := 83) (by decide +kernel), by decide +kernel⟩
theorem wd_84 : sj_in (.code Lib.objectInit ⟨#[0xb1]⟩ 1 none) := ⟨List.mem_of_getElem? (i := 84) (by decide +kernel), by decide +kernel⟩
theorem wo_init : sj_in (.instanceMethod Lib.objectInit) ∧ sj_in (.code Lib.objectInit ⟨#[0xb1]⟩ 1 none) := ⟨wd_83, wd_84⟩
theorem wd_535 : sj_in (.static Lib.Math.max.name) := ⟨List.mem_of_getElem? (i := 535) (by decide +kernel), by decide +kernel⟩
theorem wd_71 : sj_in (.initialized "java/lang/Math") := ⟨List.mem_of_getElem? (i := 71) (by decide +kernel), by decide +kernel⟩
theorem wd_536 : sj_in (.code Lib.Math.max.name Lib.Math.max.code 2 (some .int)) := ⟨List.mem_of_getElem? (i := 536) (by decide +kernel), by decide +kernel⟩
theorem wo_max : sj_in (.static Lib.Math.max.name) ∧ sj_in (.initialized "java/lang/Math") ∧ sj_in (.code Lib.Math.max.name Lib.Math.max.code 2 (some .int)) := ⟨wd_535, wd_71, wd_536⟩
theorem wd_259 : sj_in (.static Lib.Math.min.name) := ⟨List.mem_of_getElem? (i := 259) (by decide +kernel), by decide +kernel⟩
theorem wd_260 : sj_in (.code Lib.Math.min.name Lib.Math.min.code 2 (some .int)) := ⟨List.mem_of_getElem? (i := 260) (by decide +kernel), by decide +kernel⟩
theorem wo_min : sj_in (.static Lib.Math.min.name) ∧ sj_in (.initialized "java/lang/Math") ∧ sj_in (.code Lib.Math.min.name Lib.Math.min.code 2 (some .int)) := ⟨wd_259, wd_71, wd_260⟩
theorem wd_263 : sj_in (.native arraycopyName) := ⟨List.mem_of_getElem? (i := 263) (by decide +kernel), by decide +kernel⟩
theorem wd_262 : sj_in (.static arraycopyName) := ⟨List.mem_of_getElem? (i := 262) (by decide +kernel), by decide +kernel⟩
theorem wd_72 : sj_in (.initialized "java/lang/System") := ⟨List.mem_of_getElem? (i := 72) (by decide +kernel), by decide +kernel⟩
theorem wo_acopy : sj_in (.native arraycopyName) ∧ sj_in (.static arraycopyName) ∧ sj_in (.initialized "java/lang/System") := ⟨wd_263, wd_262, wd_72⟩
theorem wd_252 : sj_in (.sameMethod "[I" "java/lang/Object" "clone" "()Ljava/lang/Object;") := ⟨List.mem_of_getElem? (i := 252) (by decide +kernel), by decide +kernel⟩
theorem wd_253 : sj_in (.native ⟨"java/lang/Object", "clone", "()Ljava/lang/Object;"⟩) := ⟨List.mem_of_getElem? (i := 253) (by decide +kernel), by decide +kernel⟩
theorem wd_254 : sj_in (.instanceMethod ⟨"java/lang/Object", "clone", "()Ljava/lang/Object;"⟩) := ⟨List.mem_of_getElem? (i := 254) (by decide +kernel), by decide +kernel⟩
theorem wd_255 : sj_in (.selects "[I" ⟨"[I", "clone", "()Ljava/lang/Object;"⟩ ⟨"java/lang/Object", "clone", "()Ljava/lang/Object;"⟩) := ⟨List.mem_of_getElem? (i := 255) (by decide +kernel), by decide +kernel⟩
theorem wd_256 : sj_in (.castable "[I" "java/lang/Cloneable") := ⟨List.mem_of_getElem? (i := 256) (by decide +kernel), by decide +kernel⟩
theorem wo_clone : sj_in (.sameMethod "[I" "java/lang/Object" "clone" "()Ljava/lang/Object;") ∧ sj_in (.native ⟨"java/lang/Object", "clone", "()Ljava/lang/Object;"⟩) ∧ sj_in (.instanceMethod ⟨"java/lang/Object", "clone", "()Ljava/lang/Object;"⟩) ∧ sj_in (.selects "[I" ⟨"[I", "clone", "()Ljava/lang/Object;"⟩ ⟨"java/lang/Object", "clone", "()Ljava/lang/Object;"⟩) ∧ sj_in (.castable "[I" "java/lang/Cloneable") := ⟨wd_252, wd_253, wd_254, wd_255, wd_256⟩
theorem wd_224 : sj_in (.methodLink RX0 11 yX0_isStreamName) := ⟨List.mem_of_getElem? (i := 224) (by decide +kernel), by decide +kernel⟩
theorem wd_68 : sj_in (.initialized RX0) := ⟨List.mem_of_getElem? (i := 68) (by decide +kernel), by decide +kernel⟩
theorem wd_226 : sj_in (.code yX0_isStreamName cX0_isStreamName 1 (some .boolean)) := ⟨List.mem_of_getElem? (i := 226) (by decide +kernel), by decide +kernel⟩
theorem wd_225 : sj_in (.static yX0_isStreamName) := ⟨List.mem_of_getElem? (i := 225) (by decide +kernel), by decide +kernel⟩
theorem kc_X0_11 : sj_cw 1 RX0 11 yX0_isStreamName mX0_isStreamName 1 := ⟨wd_224, wd_68, wd_226, wd_225, fun h => absurd h (by decide), fun h => absurd h (by decide), ⟨by decide, by decide⟩, by decide +kernel⟩
theorem wd_227 : sj_in (.methodLink RX0 15 yX0_isDigit) := ⟨List.mem_of_getElem? (i := 227) (by decide +kernel), by decide +kernel⟩
theorem wd_217 : sj_in (.code yX0_isDigit cX0_isDigit 1 (some .boolean)) := ⟨List.mem_of_getElem? (i := 217) (by decide +kernel), by decide +kernel⟩
theorem wd_216 : sj_in (.static yX0_isDigit) := ⟨List.mem_of_getElem? (i := 216) (by decide +kernel), by decide +kernel⟩
theorem kc_X0_15 : sj_cw 1 RX0 15 yX0_isDigit mX0_isDigit 1 := ⟨wd_227, wd_68, wd_217, wd_216, fun h => absurd h (by decide), fun h => absurd h (by decide), ⟨by decide, by decide⟩, by decide +kernel⟩
theorem wd_221 : sj_in (.methodLink RX0 18 yX0_isLeaf) := ⟨List.mem_of_getElem? (i := 221) (by decide +kernel), by decide +kernel⟩
theorem wd_223 : sj_in (.code yX0_isLeaf cX0_isLeaf 1 (some .boolean)) := ⟨List.mem_of_getElem? (i := 223) (by decide +kernel), by decide +kernel⟩
theorem wd_222 : sj_in (.static yX0_isLeaf) := ⟨List.mem_of_getElem? (i := 222) (by decide +kernel), by decide +kernel⟩
theorem kc_X0_18 : sj_cw 1 RX0 18 yX0_isLeaf mX0_isLeaf 1 := ⟨wd_221, wd_68, wd_223, wd_222, fun h => absurd h (by decide), fun h => absurd h (by decide), ⟨by decide, by decide⟩, by decide +kernel⟩
theorem wd_228 : sj_in (.methodLink RX0 21 yX0_isPair) := ⟨List.mem_of_getElem? (i := 228) (by decide +kernel), by decide +kernel⟩
theorem wd_230 : sj_in (.code yX0_isPair cX0_isPair 1 (some .boolean)) := ⟨List.mem_of_getElem? (i := 230) (by decide +kernel), by decide +kernel⟩
theorem wd_229 : sj_in (.static yX0_isPair) := ⟨List.mem_of_getElem? (i := 229) (by decide +kernel), by decide +kernel⟩
theorem kc_X0_21 : sj_cw 1 RX0 21 yX0_isPair mX0_isPair 1 := ⟨wd_228, wd_68, wd_230, wd_229, fun h => absurd h (by decide), fun h => absurd h (by decide), ⟨by decide, by decide⟩, by decide +kernel⟩
theorem wd_267 : sj_in (.methodLink RX0 24 yX0_findEnds) := ⟨List.mem_of_getElem? (i := 267) (by decide +kernel), by decide +kernel⟩
theorem wd_269 : sj_in (.code yX0_findEnds cX0_findEnds 4 (none)) := ⟨List.mem_of_getElem? (i := 269) (by decide +kernel), by decide +kernel⟩
theorem wd_268 : sj_in (.static yX0_findEnds) := ⟨List.mem_of_getElem? (i := 268) (by decide +kernel), by decide +kernel⟩
theorem kc_X0_24 : sj_cw 1 RX0 24 yX0_findEnds mX0_findEnds 3 := ⟨wd_267, wd_68, wd_269, wd_268, fun h => absurd h (by decide), fun h => absurd h (by decide), ⟨by decide, by decide⟩, by decide +kernel⟩
theorem wd_579 : sj_in (.methodLink RX1 3 Lib.objectInit) := ⟨List.mem_of_getElem? (i := 579) (by decide +kernel), by decide +kernel⟩
theorem km_X1_3 : sj_in (.methodLink RX1 3 Lib.objectInit) := wd_579
theorem wd_580 : sj_in (.fieldLink RX1 9 "StreamJudge$Cycles" "shifts" "[I") := ⟨List.mem_of_getElem? (i := 580) (by decide +kernel), by decide +kernel⟩
theorem fl_X1_9 : sj_fl RX1 9 0 0 (.array .int) true := ⟨(RX1, TX1, 3), rfl, by decide, wd_580, by decide +kernel, rfl, rfl⟩
theorem wd_581 : sj_in (.fieldLink RX1 15 "StreamJudge$Cycles" "steps" "[I") := ⟨List.mem_of_getElem? (i := 581) (by decide +kernel), by decide +kernel⟩
theorem fl_X1_15 : sj_fl RX1 15 0 1 (.array .int) true := ⟨(RX1, TX1, 3), rfl, by decide, wd_581, by decide +kernel, rfl, rfl⟩
theorem wd_582 : sj_in (.fieldLink RX1 18 "StreamJudge$Cycles" "sums" "[I") := ⟨List.mem_of_getElem? (i := 582) (by decide +kernel), by decide +kernel⟩
theorem fl_X1_18 : sj_fl RX1 18 0 2 (.array .int) true := ⟨(RX1, TX1, 3), rfl, by decide, wd_582, by decide +kernel, rfl, rfl⟩
theorem wd_594 : sj_in (.methodLink RX1 21 yX1_findSteps) := ⟨List.mem_of_getElem? (i := 594) (by decide +kernel), by decide +kernel⟩
theorem wd_597 : sj_in (.code yX1_findSteps cX1_findSteps 9 (none)) := ⟨List.mem_of_getElem? (i := 597) (by decide +kernel), by decide +kernel⟩
theorem wd_596 : sj_in (.instanceMethod yX1_findSteps) := ⟨List.mem_of_getElem? (i := 596) (by decide +kernel), by decide +kernel⟩
theorem wd_20 : sj_in (.selects RX1 yX1_findSteps yX1_findSteps) := ⟨List.mem_of_getElem? (i := 20) (by decide +kernel), by decide +kernel⟩
theorem kc_X1_21 : sj_cw 0 RX1 21 yX1_findSteps mX1_findSteps 1 := ⟨wd_594, wd_75, wd_597, wd_596, fun _ => wd_20, fun h => absurd h (by decide), ⟨by decide, by decide⟩, by decide +kernel⟩
theorem kd_X1_25 : sj_in (.constant RX1 25 (zI (-1000000))) := ⟨List.mem_of_getElem? (i := 598) (by decide +kernel), by decide +kernel⟩
theorem wd_599 : sj_in (.methodLink RX1 26 yJ7_fill_53178) := ⟨List.mem_of_getElem? (i := 599) (by decide +kernel), by decide +kernel⟩
theorem wd_70 : sj_in (.initialized RJ7) := ⟨List.mem_of_getElem? (i := 70) (by decide +kernel), by decide +kernel⟩
theorem wd_321 : sj_in (.code yJ7_fill_53178 cJ7_fill_53178 4 (none)) := ⟨List.mem_of_getElem? (i := 321) (by decide +kernel), by decide +kernel⟩
theorem wd_320 : sj_in (.static yJ7_fill_53178) := ⟨List.mem_of_getElem? (i := 320) (by decide +kernel), by decide +kernel⟩
theorem kc_X1_26 : sj_cw 1 RX1 26 yJ7_fill_53178 mJ7_fill_53178 2 := ⟨wd_599, wd_70, wd_321, wd_320, fun h => absurd h (by decide), fun h => absurd h (by decide), ⟨by decide, by decide⟩, by decide +kernel⟩
theorem wd_607 : sj_in (.methodLink RX1 32 yJ9_max_7cf53) := ⟨List.mem_of_getElem? (i := 607) (by decide +kernel), by decide +kernel⟩
theorem km_X1_32 : sj_in (.methodLink RX1 32 yJ9_max_7cf53) := wd_607
theorem wd_608 : sj_in (.methodLink RX1 38 yX1_goOn) := ⟨List.mem_of_getElem? (i := 608) (by decide +kernel), by decide +kernel⟩
theorem wd_611 : sj_in (.code yX1_goOn cX1_goOn 7 (none)) := ⟨List.mem_of_getElem? (i := 611) (by decide +kernel), by decide +kernel⟩
theorem wd_610 : sj_in (.instanceMethod yX1_goOn) := ⟨List.mem_of_getElem? (i := 610) (by decide +kernel), by decide +kernel⟩
theorem wd_22 : sj_in (.selects RX1 yX1_goOn yX1_goOn) := ⟨List.mem_of_getElem? (i := 22) (by decide +kernel), by decide +kernel⟩
theorem kc_X1_38 : sj_cw 0 RX1 38 yX1_goOn mX1_goOn 3 := ⟨wd_608, wd_75, wd_611, wd_610, fun _ => wd_22, fun h => absurd h (by decide), ⟨by decide, by decide⟩, by decide +kernel⟩
theorem wd_115 : sj_in (.fieldLink RX1 42 "StreamJudge$Equations" "terms" "[LStreamJudge$Term;") := ⟨List.mem_of_getElem? (i := 115) (by decide +kernel), by decide +kernel⟩
theorem fl_X1_42 : sj_fl RX1 42 1 1 (.array (.object "StreamJudge$Term")) true := ⟨(RX2, TX2, 2), rfl, by decide, wd_115, by decide +kernel, rfl, rfl⟩
theorem wd_600 : sj_in (.methodLink RX1 48 yX1_findShifts) := ⟨List.mem_of_getElem? (i := 600) (by decide +kernel), by decide +kernel⟩
theorem wd_603 : sj_in (.code yX1_findShifts cX1_findShifts 4 (none)) := ⟨List.mem_of_getElem? (i := 603) (by decide +kernel), by decide +kernel⟩
theorem wd_602 : sj_in (.instanceMethod yX1_findShifts) := ⟨List.mem_of_getElem? (i := 602) (by decide +kernel), by decide +kernel⟩
theorem wd_21 : sj_in (.selects RX1 yX1_findShifts yX1_findShifts) := ⟨List.mem_of_getElem? (i := 21) (by decide +kernel), by decide +kernel⟩
theorem kc_X1_48 : sj_cw 0 RX1 48 yX1_findShifts mX1_findShifts 1 := ⟨wd_600, wd_75, wd_603, wd_602, fun _ => wd_21, fun h => absurd h (by decide), ⟨by decide, by decide⟩, by decide +kernel⟩
theorem wd_287 : sj_in (.fieldLink RX1 52 "StreamJudge$Term" "mentions" "[I") := ⟨List.mem_of_getElem? (i := 287) (by decide +kernel), by decide +kernel⟩
theorem fl_X1_52 : sj_fl RX1 52 4 3 (.array .int) true := ⟨(RX5, TX5, 4), rfl, by decide, wd_287, by decide +kernel, rfl, rfl⟩
theorem wd_606 : sj_in (.methodLink RX1 57 yX5_streamAt) := ⟨List.mem_of_getElem? (i := 606) (by decide +kernel), by decide +kernel⟩
theorem wd_341 : sj_in (.code yX5_streamAt cX5_streamAt 2 (some .int)) := ⟨List.mem_of_getElem? (i := 341) (by decide +kernel), by decide +kernel⟩
theorem wd_339 : sj_in (.instanceMethod yX5_streamAt) := ⟨List.mem_of_getElem? (i := 339) (by decide +kernel), by decide +kernel⟩
theorem wd_340 : sj_in (.selects RX5 yX5_streamAt yX5_streamAt) := ⟨List.mem_of_getElem? (i := 340) (by decide +kernel), by decide +kernel⟩
theorem kc_X1_57 : sj_cw 0 RX1 57 yX5_streamAt mX5_streamAt 1 := ⟨wd_606, wd_69, wd_341, wd_339, fun _ => wd_340, fun h => absurd h (by decide), ⟨by decide, by decide⟩, by decide +kernel⟩
theorem wd_277 : sj_in (.fieldLink RX1 61 "StreamJudge$Term" "size" "I") := ⟨List.mem_of_getElem? (i := 277) (by decide +kernel), by decide +kernel⟩
theorem fl_X1_61 : sj_fl RX1 61 4 0 .int true := ⟨(RX5, TX5, 4), rfl, by decide, wd_277, by decide +kernel, rfl, rfl⟩
theorem wd_282 : sj_in (.fieldLink RX1 65 "StreamJudge$Term" "codes" "[I") := ⟨List.mem_of_getElem? (i := 282) (by decide +kernel), by decide +kernel⟩
theorem fl_X1_65 : sj_fl RX1 65 4 1 (.array .int) true := ⟨(RX5, TX5, 4), rfl, by decide, wd_282, by decide +kernel, rfl, rfl⟩
theorem wd_604 : sj_in (.methodLink RX1 68 yX0_isLeaf) := ⟨List.mem_of_getElem? (i := 604) (by decide +kernel), by decide +kernel⟩
theorem kc_X1_68 : sj_cw 1 RX1 68 yX0_isLeaf mX0_isLeaf 1 := ⟨wd_604, wd_68, wd_223, wd_222, fun h => absurd h (by decide), fun h => absurd h (by decide), ⟨by decide, by decide⟩, by decide +kernel⟩
theorem wd_605 : sj_in (.methodLink RX1 74 yX0_isPair) := ⟨List.mem_of_getElem? (i := 605) (by decide +kernel), by decide +kernel⟩
theorem kc_X1_74 : sj_cw 1 RX1 74 yX0_isPair mX0_isPair 1 := ⟨wd_605, wd_68, wd_230, wd_229, fun h => absurd h (by decide), fun h => absurd h (by decide), ⟨by decide, by decide⟩, by decide +kernel⟩
theorem wd_285 : sj_in (.fieldLink RX1 77 "StreamJudge$Term" "ends" "[I") := ⟨List.mem_of_getElem? (i := 285) (by decide +kernel), by decide +kernel⟩
theorem fl_X1_77 : sj_fl RX1 77 4 2 (.array .int) true := ⟨(RX5, TX5, 4), rfl, by decide, wd_285, by decide +kernel, rfl, rfl⟩
theorem wd_108 : sj_in (.methodLink RX2 3 Lib.objectInit) := ⟨List.mem_of_getElem? (i := 108) (by decide +kernel), by decide +kernel⟩
theorem km_X2_3 : sj_in (.methodLink RX2 3 Lib.objectInit) := wd_108
theorem wd_111 : sj_in (.fieldLink RX2 9 "StreamJudge$Equations" "modulus" "I") := ⟨List.mem_of_getElem? (i := 111) (by decide +kernel), by decide +kernel⟩
theorem fl_X2_9 : sj_fl RX2 9 1 0 .int false := ⟨(RX2, TX2, 2), rfl, by decide, wd_111, by decide +kernel, rfl, rfl⟩
theorem wd_109 : sj_in (.classLink RX2 15 RX5) := ⟨List.mem_of_getElem? (i := 109) (by decide +kernel), by decide +kernel⟩
theorem kl_X2_15 : sj_in (.classLink RX2 15 RX5) := wd_109
theorem wd_114 : sj_in (.fieldLink RX2 17 "StreamJudge$Equations" "terms" "[LStreamJudge$Term;") := ⟨List.mem_of_getElem? (i := 114) (by decide +kernel), by decide +kernel⟩
theorem fl_X2_17 : sj_fl RX2 17 1 1 (.array (.object "StreamJudge$Term")) true := ⟨(RX2, TX2, 2), rfl, by decide, wd_114, by decide +kernel, rfl, rfl⟩
theorem wd_276 : sj_in (.fieldLink RX2 21 "StreamJudge$Term" "size" "I") := ⟨List.mem_of_getElem? (i := 276) (by decide +kernel), by decide +kernel⟩
theorem fl_X2_21 : sj_fl RX2 21 4 0 .int true := ⟨(RX5, TX5, 4), rfl, by decide, wd_276, by decide +kernel, rfl, rfl⟩
theorem wd_442 : sj_in (.methodLink RX2 24 yX5_isPlain) := ⟨List.mem_of_getElem? (i := 442) (by decide +kernel), by decide +kernel⟩
theorem wd_445 : sj_in (.code yX5_isPlain cX5_isPlain 2 (some .boolean)) := ⟨List.mem_of_getElem? (i := 445) (by decide +kernel), by decide +kernel⟩
theorem wd_443 : sj_in (.instanceMethod yX5_isPlain) := ⟨List.mem_of_getElem? (i := 443) (by decide +kernel), by decide +kernel⟩
theorem wd_444 : sj_in (.selects RX5 yX5_isPlain yX5_isPlain) := ⟨List.mem_of_getElem? (i := 444) (by decide +kernel), by decide +kernel⟩
theorem kc_X2_24 : sj_cw 0 RX2 24 yX5_isPlain mX5_isPlain 0 := ⟨wd_442, wd_69, wd_445, wd_443, fun _ => wd_444, fun h => absurd h (by decide), ⟨by decide, by decide⟩, by decide +kernel⟩
theorem wd_128 : sj_in (.methodLink RX3 1 Lib.objectInit) := ⟨List.mem_of_getElem? (i := 128) (by decide +kernel), by decide +kernel⟩
theorem km_X3_1 : sj_in (.methodLink RX3 1 Lib.objectInit) := wd_128
theorem wd_129 : sj_in (.classLink RX3 9 RX2) := ⟨List.mem_of_getElem? (i := 129) (by decide +kernel), by decide +kernel⟩
theorem kl_X3_9 : sj_in (.classLink RX3 9 RX2) := wd_129
theorem wd_131 : sj_in (.fieldLink RX3 11 "StreamJudge$History" "states" "[LStreamJudge$Equations;") := ⟨List.mem_of_getElem? (i := 131) (by decide +kernel), by decide +kernel⟩
theorem fl_X3_11 : sj_fl RX3 11 2 0 (.array (.object "StreamJudge$Equations")) true := ⟨(RX3, TX3, 3), rfl, by decide, wd_131, by decide +kernel, rfl, rfl⟩
theorem wd_132 : sj_in (.fieldLink RX3 15 "StreamJudge$History" "oldest" "I") := ⟨List.mem_of_getElem? (i := 132) (by decide +kernel), by decide +kernel⟩
theorem fl_X3_15 : sj_fl RX3 15 2 1 .int false := ⟨(RX3, TX3, 3), rfl, by decide, wd_132, by decide +kernel, rfl, rfl⟩
theorem wd_133 : sj_in (.fieldLink RX3 19 "StreamJudge$History" "count" "I") := ⟨List.mem_of_getElem? (i := 133) (by decide +kernel), by decide +kernel⟩
theorem fl_X3_19 : sj_fl RX3 19 2 2 .int false := ⟨(RX3, TX3, 3), rfl, by decide, wd_133, by decide +kernel, rfl, rfl⟩
theorem wd_306 : sj_in (.methodLinkNest RX3 22 yX2_init "StreamJudge") := ⟨List.mem_of_getElem? (i := 306) (by decide +kernel), by decide +kernel⟩
theorem wd_107 : sj_in (.code yX2_init cX2_init 1 (none)) := ⟨List.mem_of_getElem? (i := 107) (by decide +kernel), by decide +kernel⟩
theorem wd_106 : sj_in (.instanceMethod yX2_init) := ⟨List.mem_of_getElem? (i := 106) (by decide +kernel), by decide +kernel⟩
theorem kc_X3_22 : sj_cw 3 RX3 22 yX2_init mX2_init 0 := ⟨⟨_, wd_306⟩, wd_64, wd_107, wd_106, fun h => absurd h (by decide), fun _ => ⟨rfl, rfl⟩, ⟨by decide, by decide⟩, by decide +kernel⟩
theorem wd_307 : sj_in (.methodLink RX3 23 yX2_copyFrom) := ⟨List.mem_of_getElem? (i := 307) (by decide +kernel), by decide +kernel⟩
theorem wd_310 : sj_in (.code yX2_copyFrom cX2_copyFrom 3 (none)) := ⟨List.mem_of_getElem? (i := 310) (by decide +kernel), by decide +kernel⟩
theorem wd_308 : sj_in (.instanceMethod yX2_copyFrom) := ⟨List.mem_of_getElem? (i := 308) (by decide +kernel), by decide +kernel⟩
theorem wd_309 : sj_in (.selects RX2 yX2_copyFrom yX2_copyFrom) := ⟨List.mem_of_getElem? (i := 309) (by decide +kernel), by decide +kernel⟩
theorem kc_X3_23 : sj_cw 0 RX3 23 yX2_copyFrom mX2_copyFrom 1 := ⟨wd_307, wd_64, wd_310, wd_308, fun _ => wd_309, fun h => absurd h (by decide), ⟨by decide, by decide⟩, by decide +kernel⟩
theorem wd_147 : sj_in (.methodLink RX4 3 Lib.objectInit) := ⟨List.mem_of_getElem? (i := 147) (by decide +kernel), by decide +kernel⟩
theorem km_X4_3 : sj_in (.methodLink RX4 3 Lib.objectInit) := wd_147
theorem wd_148 : sj_in (.fieldLink RX4 9 "StreamJudge$Rewriting" "codes" "[I") := ⟨List.mem_of_getElem? (i := 148) (by decide +kernel), by decide +kernel⟩
theorem fl_X4_9 : sj_fl RX4 9 3 0 (.array .int) true := ⟨(RX4, TX4, 4), rfl, by decide, wd_148, by decide +kernel, rfl, rfl⟩
theorem wd_149 : sj_in (.fieldLink RX4 15 "StreamJudge$Rewriting" "ends" "[I") := ⟨List.mem_of_getElem? (i := 149) (by decide +kernel), by decide +kernel⟩
theorem fl_X4_15 : sj_fl RX4 15 3 1 (.array .int) true := ⟨(RX4, TX4, 4), rfl, by decide, wd_149, by decide +kernel, rfl, rfl⟩
theorem wd_150 : sj_in (.fieldLink RX4 18 "StreamJudge$Rewriting" "spare" "[I") := ⟨List.mem_of_getElem? (i := 150) (by decide +kernel), by decide +kernel⟩
theorem fl_X4_18 : sj_fl RX4 18 3 2 (.array .int) true := ⟨(RX4, TX4, 4), rfl, by decide, wd_150, by decide +kernel, rfl, rfl⟩
theorem wd_274 : sj_in (.fieldLink RX4 21 "StreamJudge$Term" "size" "I") := ⟨List.mem_of_getElem? (i := 274) (by decide +kernel), by decide +kernel⟩
theorem fl_X4_21 : sj_fl RX4 21 4 0 .int true := ⟨(RX5, TX5, 4), rfl, by decide, wd_274, by decide +kernel, rfl, rfl⟩
theorem wd_358 : sj_in (.methodLink RX4 27 yJ9_min_7cf53) := ⟨List.mem_of_getElem? (i := 358) (by decide +kernel), by decide +kernel⟩
theorem km_X4_27 : sj_in (.methodLink RX4 27 yJ9_min_7cf53) := wd_358
theorem wd_151 : sj_in (.fieldLink RX4 33 "StreamJudge$Rewriting" "size" "I") := ⟨List.mem_of_getElem? (i := 151) (by decide +kernel), by decide +kernel⟩
theorem fl_X4_33 : sj_fl RX4 33 3 3 .int false := ⟨(RX4, TX4, 4), rfl, by decide, wd_151, by decide +kernel, rfl, rfl⟩
theorem wd_280 : sj_in (.fieldLink RX4 34 "StreamJudge$Term" "codes" "[I") := ⟨List.mem_of_getElem? (i := 280) (by decide +kernel), by decide +kernel⟩
theorem fl_X4_34 : sj_fl RX4 34 4 1 (.array .int) true := ⟨(RX5, TX5, 4), rfl, by decide, wd_280, by decide +kernel, rfl, rfl⟩
theorem wd_359 : sj_in (.methodLink RX4 35 arraycopyName) := ⟨List.mem_of_getElem? (i := 359) (by decide +kernel), by decide +kernel⟩
theorem km_X4_35 : sj_in (.methodLink RX4 35 arraycopyName) := wd_359
theorem wd_416 : sj_in (.classLink RX4 22 RX5) := ⟨List.mem_of_getElem? (i := 416) (by decide +kernel), by decide +kernel⟩
theorem kl_X4_22 : sj_in (.classLink RX4 22 RX5) := wd_416
theorem wd_417 : sj_in (.methodLink RX4 41 yX5_init) := ⟨List.mem_of_getElem? (i := 417) (by decide +kernel), by decide +kernel⟩
theorem wd_246 : sj_in (.code yX5_init cX5_init 3 (none)) := ⟨List.mem_of_getElem? (i := 246) (by decide +kernel), by decide +kernel⟩
theorem wd_245 : sj_in (.instanceMethod yX5_init) := ⟨List.mem_of_getElem? (i := 245) (by decide +kernel), by decide +kernel⟩
theorem kc_X4_41 : sj_cw 2 RX4 41 yX5_init mX5_init 2 := ⟨wd_417, wd_69, wd_246, wd_245, fun h => absurd h (by decide), fun _ => ⟨rfl, rfl⟩, ⟨by decide, by decide⟩, by decide +kernel⟩
theorem kd_X4_44 : sj_in (.constant RX4 44 (zI (1000000))) := ⟨List.mem_of_getElem? (i := 364) (by decide +kernel), by decide +kernel⟩
theorem wd_365 : sj_in (.methodLink RX4 45 yX0_findEnds) := ⟨List.mem_of_getElem? (i := 365) (by decide +kernel), by decide +kernel⟩
theorem kc_X4_45 : sj_cw 1 RX4 45 yX0_findEnds mX0_findEnds 3 := ⟨wd_365, wd_68, wd_269, wd_268, fun h => absurd h (by decide), fun h => absurd h (by decide), ⟨by decide, by decide⟩, by decide +kernel⟩
theorem wd_366 : sj_in (.methodLink RX4 51 yX4_firstMatch) := ⟨List.mem_of_getElem? (i := 366) (by decide +kernel), by decide +kernel⟩
theorem wd_369 : sj_in (.code yX4_firstMatch cX4_firstMatch 2 (some .int)) := ⟨List.mem_of_getElem? (i := 369) (by decide +kernel), by decide +kernel⟩
theorem wd_368 : sj_in (.instanceMethod yX4_firstMatch) := ⟨List.mem_of_getElem? (i := 368) (by decide +kernel), by decide +kernel⟩
theorem wd_2 : sj_in (.selects RX4 yX4_firstMatch yX4_firstMatch) := ⟨List.mem_of_getElem? (i := 2) (by decide +kernel), by decide +kernel⟩
theorem kc_X4_51 : sj_cw 0 RX4 51 yX4_firstMatch mX4_firstMatch 0 := ⟨wd_366, wd_66, wd_369, wd_368, fun _ => wd_2, fun h => absurd h (by decide), ⟨by decide, by decide⟩, by decide +kernel⟩
theorem wd_384 : sj_in (.methodLink RX4 55 yX4_apply) := ⟨List.mem_of_getElem? (i := 384) (by decide +kernel), by decide +kernel⟩
theorem wd_387 : sj_in (.code yX4_apply cX4_apply 3 (some .boolean)) := ⟨List.mem_of_getElem? (i := 387) (by decide +kernel), by decide +kernel⟩
theorem wd_386 : sj_in (.instanceMethod yX4_apply) := ⟨List.mem_of_getElem? (i := 386) (by decide +kernel), by decide +kernel⟩
theorem wd_6 : sj_in (.selects RX4 yX4_apply yX4_apply) := ⟨List.mem_of_getElem? (i := 6) (by decide +kernel), by decide +kernel⟩
theorem kc_X4_55 : sj_cw 0 RX4 55 yX4_apply mX4_apply 1 := ⟨wd_384, wd_66, wd_387, wd_386, fun _ => wd_6, fun h => absurd h (by decide), ⟨by decide, by decide⟩, by decide +kernel⟩
theorem wd_370 : sj_in (.methodLink RX4 59 yX4_matches) := ⟨List.mem_of_getElem? (i := 370) (by decide +kernel), by decide +kernel⟩
theorem wd_373 : sj_in (.code yX4_matches cX4_matches 3 (some .boolean)) := ⟨List.mem_of_getElem? (i := 373) (by decide +kernel), by decide +kernel⟩
theorem wd_372 : sj_in (.instanceMethod yX4_matches) := ⟨List.mem_of_getElem? (i := 372) (by decide +kernel), by decide +kernel⟩
theorem wd_3 : sj_in (.selects RX4 yX4_matches yX4_matches) := ⟨List.mem_of_getElem? (i := 3) (by decide +kernel), by decide +kernel⟩
theorem kc_X4_59 : sj_cw 0 RX4 59 yX4_matches mX4_matches 1 := ⟨wd_370, wd_66, wd_373, wd_372, fun _ => wd_3, fun h => absurd h (by decide), ⟨by decide, by decide⟩, by decide +kernel⟩
theorem wd_374 : sj_in (.methodLink RX4 62 yX0_isStreamName) := ⟨List.mem_of_getElem? (i := 374) (by decide +kernel), by decide +kernel⟩
theorem kc_X4_62 : sj_cw 1 RX4 62 yX0_isStreamName mX0_isStreamName 1 := ⟨wd_374, wd_68, wd_226, wd_225, fun h => absurd h (by decide), fun h => absurd h (by decide), ⟨by decide, by decide⟩, by decide +kernel⟩
theorem wd_375 : sj_in (.methodLink RX4 65 yX0_isDigit) := ⟨List.mem_of_getElem? (i := 375) (by decide +kernel), by decide +kernel⟩
theorem kc_X4_65 : sj_cw 1 RX4 65 yX0_isDigit mX0_isDigit 1 := ⟨wd_375, wd_68, wd_217, wd_216, fun h => absurd h (by decide), fun h => absurd h (by decide), ⟨by decide, by decide⟩, by decide +kernel⟩
theorem wd_376 : sj_in (.methodLink RX4 68 yX4_isSplitTwin) := ⟨List.mem_of_getElem? (i := 376) (by decide +kernel), by decide +kernel⟩
theorem wd_379 : sj_in (.code yX4_isSplitTwin cX4_isSplitTwin 3 (some .boolean)) := ⟨List.mem_of_getElem? (i := 379) (by decide +kernel), by decide +kernel⟩
theorem wd_378 : sj_in (.instanceMethod yX4_isSplitTwin) := ⟨List.mem_of_getElem? (i := 378) (by decide +kernel), by decide +kernel⟩
theorem wd_4 : sj_in (.selects RX4 yX4_isSplitTwin yX4_isSplitTwin) := ⟨List.mem_of_getElem? (i := 4) (by decide +kernel), by decide +kernel⟩
theorem kc_X4_68 : sj_cw 0 RX4 68 yX4_isSplitTwin mX4_isSplitTwin 1 := ⟨wd_376, wd_66, wd_379, wd_378, fun _ => wd_4, fun h => absurd h (by decide), ⟨by decide, by decide⟩, by decide +kernel⟩
theorem wd_380 : sj_in (.methodLink RX4 71 yX4_areWrittenAlike) := ⟨List.mem_of_getElem? (i := 380) (by decide +kernel), by decide +kernel⟩
theorem wd_383 : sj_in (.code yX4_areWrittenAlike cX4_areWrittenAlike 5 (some .boolean)) := ⟨List.mem_of_getElem? (i := 383) (by decide +kernel), by decide +kernel⟩
theorem wd_382 : sj_in (.instanceMethod yX4_areWrittenAlike) := ⟨List.mem_of_getElem? (i := 382) (by decide +kernel), by decide +kernel⟩
theorem wd_5 : sj_in (.selects RX4 yX4_areWrittenAlike yX4_areWrittenAlike) := ⟨List.mem_of_getElem? (i := 5) (by decide +kernel), by decide +kernel⟩
theorem kc_X4_71 : sj_cw 0 RX4 71 yX4_areWrittenAlike mX4_areWrittenAlike 2 := ⟨wd_380, wd_66, wd_383, wd_382, fun _ => wd_5, fun h => absurd h (by decide), ⟨by decide, by decide⟩, by decide +kernel⟩
theorem wd_388 : sj_in (.methodLink RX4 75 yX4_pushTail) := ⟨List.mem_of_getElem? (i := 388) (by decide +kernel), by decide +kernel⟩
theorem wd_391 : sj_in (.code yX4_pushTail cX4_pushTail 3 (some .boolean)) := ⟨List.mem_of_getElem? (i := 391) (by decide +kernel), by decide +kernel⟩
theorem wd_390 : sj_in (.instanceMethod yX4_pushTail) := ⟨List.mem_of_getElem? (i := 390) (by decide +kernel), by decide +kernel⟩
theorem wd_7 : sj_in (.selects RX4 yX4_pushTail yX4_pushTail) := ⟨List.mem_of_getElem? (i := 7) (by decide +kernel), by decide +kernel⟩
theorem kc_X4_75 : sj_cw 0 RX4 75 yX4_pushTail mX4_pushTail 1 := ⟨wd_388, wd_66, wd_391, wd_390, fun _ => wd_7, fun h => absurd h (by decide), ⟨by decide, by decide⟩, by decide +kernel⟩
theorem wd_408 : sj_in (.methodLink RX4 78 yX4_keepFirst) := ⟨List.mem_of_getElem? (i := 408) (by decide +kernel), by decide +kernel⟩
theorem wd_411 : sj_in (.code yX4_keepFirst cX4_keepFirst 3 (none)) := ⟨List.mem_of_getElem? (i := 411) (by decide +kernel), by decide +kernel⟩
theorem wd_410 : sj_in (.instanceMethod yX4_keepFirst) := ⟨List.mem_of_getElem? (i := 410) (by decide +kernel), by decide +kernel⟩
theorem wd_11 : sj_in (.selects RX4 yX4_keepFirst yX4_keepFirst) := ⟨List.mem_of_getElem? (i := 11) (by decide +kernel), by decide +kernel⟩
theorem kc_X4_78 : sj_cw 0 RX4 78 yX4_keepFirst mX4_keepFirst 2 := ⟨wd_408, wd_66, wd_411, wd_410, fun _ => wd_11, fun h => absurd h (by decide), ⟨by decide, by decide⟩, by decide +kernel⟩
theorem wd_392 : sj_in (.methodLink RX4 82 yX4_cut) := ⟨List.mem_of_getElem? (i := 392) (by decide +kernel), by decide +kernel⟩
theorem wd_395 : sj_in (.code yX4_cut cX4_cut 3 (none)) := ⟨List.mem_of_getElem? (i := 395) (by decide +kernel), by decide +kernel⟩
theorem wd_394 : sj_in (.instanceMethod yX4_cut) := ⟨List.mem_of_getElem? (i := 394) (by decide +kernel), by decide +kernel⟩
theorem wd_8 : sj_in (.selects RX4 yX4_cut yX4_cut) := ⟨List.mem_of_getElem? (i := 8) (by decide +kernel), by decide +kernel⟩
theorem kc_X4_82 : sj_cw 0 RX4 82 yX4_cut mX4_cut 2 := ⟨wd_392, wd_66, wd_395, wd_394, fun _ => wd_8, fun h => absurd h (by decide), ⟨by decide, by decide⟩, by decide +kernel⟩
theorem wd_396 : sj_in (.methodLink RX4 85 yX0_isFront) := ⟨List.mem_of_getElem? (i := 396) (by decide +kernel), by decide +kernel⟩
theorem wd_398 : sj_in (.code yX0_isFront cX0_isFront 1 (some .boolean)) := ⟨List.mem_of_getElem? (i := 398) (by decide +kernel), by decide +kernel⟩
theorem wd_397 : sj_in (.static yX0_isFront) := ⟨List.mem_of_getElem? (i := 397) (by decide +kernel), by decide +kernel⟩
theorem kc_X4_85 : sj_cw 1 RX4 85 yX0_isFront mX0_isFront 1 := ⟨wd_396, wd_68, wd_398, wd_397, fun h => absurd h (by decide), fun h => absurd h (by decide), ⟨by decide, by decide⟩, by decide +kernel⟩
theorem wd_399 : sj_in (.methodLink RX4 88 yX4_turnZip) := ⟨List.mem_of_getElem? (i := 399) (by decide +kernel), by decide +kernel⟩
theorem wd_402 : sj_in (.code yX4_turnZip cX4_turnZip 6 (none)) := ⟨List.mem_of_getElem? (i := 402) (by decide +kernel), by decide +kernel⟩
theorem wd_401 : sj_in (.instanceMethod yX4_turnZip) := ⟨List.mem_of_getElem? (i := 401) (by decide +kernel), by decide +kernel⟩
theorem wd_9 : sj_in (.selects RX4 yX4_turnZip yX4_turnZip) := ⟨List.mem_of_getElem? (i := 9) (by decide +kernel), by decide +kernel⟩
theorem kc_X4_88 : sj_cw 0 RX4 88 yX4_turnZip mX4_turnZip 1 := ⟨wd_399, wd_66, wd_402, wd_401, fun _ => wd_9, fun h => absurd h (by decide), ⟨by decide, by decide⟩, by decide +kernel⟩
theorem wd_403 : sj_in (.methodLink RX4 92 yX0_isPair) := ⟨List.mem_of_getElem? (i := 403) (by decide +kernel), by decide +kernel⟩
theorem kc_X4_92 : sj_cw 1 RX4 92 yX0_isPair mX0_isPair 1 := ⟨wd_403, wd_68, wd_230, wd_229, fun h => absurd h (by decide), fun h => absurd h (by decide), ⟨by decide, by decide⟩, by decide +kernel⟩
theorem wd_404 : sj_in (.methodLink RX4 95 yX4_putTail) := ⟨List.mem_of_getElem? (i := 404) (by decide +kernel), by decide +kernel⟩
theorem wd_407 : sj_in (.code yX4_putTail cX4_putTail 2 (none)) := ⟨List.mem_of_getElem? (i := 407) (by decide +kernel), by decide +kernel⟩
theorem wd_406 : sj_in (.instanceMethod yX4_putTail) := ⟨List.mem_of_getElem? (i := 406) (by decide +kernel), by decide +kernel⟩
theorem wd_10 : sj_in (.selects RX4 yX4_putTail yX4_putTail) := ⟨List.mem_of_getElem? (i := 10) (by decide +kernel), by decide +kernel⟩
theorem kc_X4_95 : sj_cw 0 RX4 95 yX4_putTail mX4_putTail 1 := ⟨wd_404, wd_66, wd_407, wd_406, fun _ => wd_10, fun h => absurd h (by decide), ⟨by decide, by decide⟩, by decide +kernel⟩
theorem wd_247 : sj_in (.methodLink RX5 3 Lib.objectInit) := ⟨List.mem_of_getElem? (i := 247) (by decide +kernel), by decide +kernel⟩
theorem km_X5_3 : sj_in (.methodLink RX5 3 Lib.objectInit) := wd_247
theorem wd_273 : sj_in (.fieldLink RX5 9 "StreamJudge$Term" "size" "I") := ⟨List.mem_of_getElem? (i := 273) (by decide +kernel), by decide +kernel⟩
theorem fl_X5_9 : sj_fl RX5 9 4 0 .int true := ⟨(RX5, TX5, 4), rfl, by decide, wd_273, by decide +kernel, rfl, rfl⟩
theorem wd_248 : sj_in (.methodLink RX5 15 yJ7_copyOf_59c91) := ⟨List.mem_of_getElem? (i := 248) (by decide +kernel), by decide +kernel⟩
theorem wd_250 : sj_in (.code yJ7_copyOf_59c91 cJ7_copyOf_59c91 3 (some (.array .int))) := ⟨List.mem_of_getElem? (i := 250) (by decide +kernel), by decide +kernel⟩
theorem wd_249 : sj_in (.static yJ7_copyOf_59c91) := ⟨List.mem_of_getElem? (i := 249) (by decide +kernel), by decide +kernel⟩
theorem kc_X5_15 : sj_cw 1 RX5 15 yJ7_copyOf_59c91 mJ7_copyOf_59c91 2 := ⟨wd_248, wd_70, wd_250, wd_249, fun h => absurd h (by decide), fun h => absurd h (by decide), ⟨by decide, by decide⟩, by decide +kernel⟩
theorem wd_279 : sj_in (.fieldLink RX5 21 "StreamJudge$Term" "codes" "[I") := ⟨List.mem_of_getElem? (i := 279) (by decide +kernel), by decide +kernel⟩
theorem fl_X5_21 : sj_fl RX5 21 4 1 (.array .int) true := ⟨(RX5, TX5, 4), rfl, by decide, wd_279, by decide +kernel, rfl, rfl⟩
theorem wd_264 : sj_in (.methodLink RX5 25 yX0_endsOf) := ⟨List.mem_of_getElem? (i := 264) (by decide +kernel), by decide +kernel⟩
theorem wd_266 : sj_in (.code yX0_endsOf cX0_endsOf 3 (some (.array .int))) := ⟨List.mem_of_getElem? (i := 266) (by decide +kernel), by decide +kernel⟩
theorem wd_265 : sj_in (.static yX0_endsOf) := ⟨List.mem_of_getElem? (i := 265) (by decide +kernel), by decide +kernel⟩
theorem kc_X5_25 : sj_cw 1 RX5 25 yX0_endsOf mX0_endsOf 2 := ⟨wd_264, wd_68, wd_266, wd_265, fun h => absurd h (by decide), fun h => absurd h (by decide), ⟨by decide, by decide⟩, by decide +kernel⟩
theorem wd_283 : sj_in (.fieldLink RX5 30 "StreamJudge$Term" "ends" "[I") := ⟨List.mem_of_getElem? (i := 283) (by decide +kernel), by decide +kernel⟩
theorem fl_X5_30 : sj_fl RX5 30 4 2 (.array .int) true := ⟨(RX5, TX5, 4), rfl, by decide, wd_283, by decide +kernel, rfl, rfl⟩
theorem wd_270 : sj_in (.methodLink RX5 33 yX0_findMentions) := ⟨List.mem_of_getElem? (i := 270) (by decide +kernel), by decide +kernel⟩
theorem wd_272 : sj_in (.code yX0_findMentions cX0_findMentions 6 (some (.array .int))) := ⟨List.mem_of_getElem? (i := 272) (by decide +kernel), by decide +kernel⟩
theorem wd_271 : sj_in (.static yX0_findMentions) := ⟨List.mem_of_getElem? (i := 271) (by decide +kernel), by decide +kernel⟩
theorem kc_X5_33 : sj_cw 1 RX5 33 yX0_findMentions mX0_findMentions 2 := ⟨wd_270, wd_68, wd_272, wd_271, fun h => absurd h (by decide), fun h => absurd h (by decide), ⟨by decide, by decide⟩, by decide +kernel⟩
theorem wd_286 : sj_in (.fieldLink RX5 36 "StreamJudge$Term" "mentions" "[I") := ⟨List.mem_of_getElem? (i := 286) (by decide +kernel), by decide +kernel⟩
theorem fl_X5_36 : sj_fl RX5 36 4 3 (.array .int) true := ⟨(RX5, TX5, 4), rfl, by decide, wd_286, by decide +kernel, rfl, rfl⟩
theorem wd_561 : sj_in (.methodLink RX5 39 yX0_isFront) := ⟨List.mem_of_getElem? (i := 561) (by decide +kernel), by decide +kernel⟩
theorem kc_X5_39 : sj_cw 1 RX5 39 yX0_isFront mX0_isFront 1 := ⟨wd_561, wd_68, wd_398, wd_397, fun h => absurd h (by decide), fun h => absurd h (by decide), ⟨by decide, by decide⟩, by decide +kernel⟩
theorem wd_338 : sj_in (.methodLink RX5 43 yX5_streamAt) := ⟨List.mem_of_getElem? (i := 338) (by decide +kernel), by decide +kernel⟩
theorem kc_X5_43 : sj_cw 0 RX5 43 yX5_streamAt mX5_streamAt 1 := ⟨wd_338, wd_69, wd_341, wd_339, fun _ => wd_340, fun h => absurd h (by decide), ⟨by decide, by decide⟩, by decide +kernel⟩
theorem wd_446 : sj_in (.methodLink RX5 47 yX0_isPlain) := ⟨List.mem_of_getElem? (i := 446) (by decide +kernel), by decide +kernel⟩
theorem wd_448 : sj_in (.code yX0_isPlain cX0_isPlain 1 (some .boolean)) := ⟨List.mem_of_getElem? (i := 448) (by decide +kernel), by decide +kernel⟩
theorem wd_447 : sj_in (.static yX0_isPlain) := ⟨List.mem_of_getElem? (i := 447) (by decide +kernel), by decide +kernel⟩
theorem kc_X5_47 : sj_cw 1 RX5 47 yX0_isPlain mX0_isPlain 1 := ⟨wd_446, wd_68, wd_448, wd_447, fun h => absurd h (by decide), fun h => absurd h (by decide), ⟨by decide, by decide⟩, by decide +kernel⟩
theorem wd_346 : sj_in (.methodLink RX5 50 yX5_sizeWith) := ⟨List.mem_of_getElem? (i := 346) (by decide +kernel), by decide +kernel⟩
theorem wd_337 : sj_in (.code yX5_sizeWith cX5_sizeWith 8 (some .int)) := ⟨List.mem_of_getElem? (i := 337) (by decide +kernel), by decide +kernel⟩
theorem wd_335 : sj_in (.instanceMethod yX5_sizeWith) := ⟨List.mem_of_getElem? (i := 335) (by decide +kernel), by decide +kernel⟩
theorem wd_336 : sj_in (.selects RX5 yX5_sizeWith yX5_sizeWith) := ⟨List.mem_of_getElem? (i := 336) (by decide +kernel), by decide +kernel⟩
theorem kc_X5_50 : sj_cw 0 RX5 50 yX5_sizeWith mX5_sizeWith 2 := ⟨wd_346, wd_69, wd_337, wd_335, fun _ => wd_336, fun h => absurd h (by decide), ⟨by decide, by decide⟩, by decide +kernel⟩
theorem wd_347 : sj_in (.methodLink RX5 54 arraycopyName) := ⟨List.mem_of_getElem? (i := 347) (by decide +kernel), by decide +kernel⟩
theorem km_X5_54 : sj_in (.methodLink RX5 54 arraycopyName) := wd_347
theorem wd_348 : sj_in (.classLink RX5 10 RX5) := ⟨List.mem_of_getElem? (i := 348) (by decide +kernel), by decide +kernel⟩
theorem kl_X5_10 : sj_in (.classLink RX5 10 RX5) := wd_348
theorem wd_349 : sj_in (.methodLink RX5 60 yX5_init) := ⟨List.mem_of_getElem? (i := 349) (by decide +kernel), by decide +kernel⟩
theorem kc_X5_60 : sj_cw 2 RX5 60 yX5_init mX5_init 2 := ⟨wd_349, wd_69, wd_246, wd_245, fun h => absurd h (by decide), fun _ => ⟨rfl, rfl⟩, ⟨by decide, by decide⟩, by decide +kernel⟩
theorem wd_90 : sj_in (.methodLink RX6 3 Lib.objectInit) := ⟨List.mem_of_getElem? (i := 90) (by decide +kernel), by decide +kernel⟩
theorem km_X6_3 : sj_in (.methodLink RX6 3 Lib.objectInit) := wd_90
theorem wd_91 : sj_in (.fieldLink RX6 11 "StreamJudge$Text" "bytes" "[I") := ⟨List.mem_of_getElem? (i := 91) (by decide +kernel), by decide +kernel⟩
theorem fl_X6_11 : sj_fl RX6 11 5 0 (.array .int) true := ⟨(RX6, TX6, 3), rfl, by decide, wd_91, by decide +kernel, rfl, rfl⟩
theorem wd_92 : sj_in (.fieldLink RX6 15 "StreamJudge$Text" "codes" "[I") := ⟨List.mem_of_getElem? (i := 92) (by decide +kernel), by decide +kernel⟩
theorem fl_X6_15 : sj_fl RX6 15 5 1 (.array .int) true := ⟨(RX6, TX6, 3), rfl, by decide, wd_92, by decide +kernel, rfl, rfl⟩
theorem wd_93 : sj_in (.fieldLink RX6 18 "StreamJudge$Text" "length" "I") := ⟨List.mem_of_getElem? (i := 93) (by decide +kernel), by decide +kernel⟩
theorem fl_X6_18 : sj_fl RX6 18 5 2 .int false := ⟨(RX6, TX6, 3), rfl, by decide, wd_93, by decide +kernel, rfl, rfl⟩
theorem wd_215 : sj_in (.methodLink RX6 22 yX0_isDigit) := ⟨List.mem_of_getElem? (i := 215) (by decide +kernel), by decide +kernel⟩
theorem kc_X6_22 : sj_cw 1 RX6 22 yX0_isDigit mX0_isDigit 1 := ⟨wd_215, wd_68, wd_217, wd_216, fun h => absurd h (by decide), fun h => absurd h (by decide), ⟨by decide, by decide⟩, by decide +kernel⟩
theorem wd_218 : sj_in (.methodLink RX6 28 yX0_operands) := ⟨List.mem_of_getElem? (i := 218) (by decide +kernel), by decide +kernel⟩
theorem wd_220 : sj_in (.code yX0_operands cX0_operands 1 (some .int)) := ⟨List.mem_of_getElem? (i := 220) (by decide +kernel), by decide +kernel⟩
theorem wd_219 : sj_in (.static yX0_operands) := ⟨List.mem_of_getElem? (i := 219) (by decide +kernel), by decide +kernel⟩
theorem kc_X6_28 : sj_cw 1 RX6 28 yX0_operands mX0_operands 1 := ⟨wd_218, wd_68, wd_220, wd_219, fun h => absurd h (by decide), fun h => absurd h (by decide), ⟨by decide, by decide⟩, by decide +kernel⟩
theorem wd_242 : sj_in (.classLink RX6 32 RX5) := ⟨List.mem_of_getElem? (i := 242) (by decide +kernel), by decide +kernel⟩
theorem kl_X6_32 : sj_in (.classLink RX6 32 RX5) := wd_242
theorem wd_244 : sj_in (.methodLink RX6 34 yX5_init) := ⟨List.mem_of_getElem? (i := 244) (by decide +kernel), by decide +kernel⟩
theorem kc_X6_34 : sj_cw 2 RX6 34 yX5_init mX5_init 2 := ⟨wd_244, wd_69, wd_246, wd_245, fun h => absurd h (by decide), fun _ => ⟨rfl, rfl⟩, ⟨by decide, by decide⟩, by decide +kernel⟩
theorem wd_487 : sj_in (.methodLink RX7 3 Lib.objectInit) := ⟨List.mem_of_getElem? (i := 487) (by decide +kernel), by decide +kernel⟩
theorem km_X7_3 : sj_in (.methodLink RX7 3 Lib.objectInit) := wd_487
theorem wd_490 : sj_in (.fieldLink RX7 9 "StreamJudge$Values" "cells" "[I") := ⟨List.mem_of_getElem? (i := 490) (by decide +kernel), by decide +kernel⟩
theorem fl_X7_9 : sj_fl RX7 9 6 2 (.array .int) true := ⟨(RX7, TX7, 4), rfl, by decide, wd_490, by decide +kernel, rfl, rfl⟩
theorem wd_488 : sj_in (.fieldLink RX7 15 "StreamJudge$Values" "equations" "LStreamJudge$Equations;") := ⟨List.mem_of_getElem? (i := 488) (by decide +kernel), by decide +kernel⟩
theorem fl_X7_15 : sj_fl RX7 15 6 0 (.object "StreamJudge$Equations") true := ⟨(RX7, TX7, 4), rfl, by decide, wd_488, by decide +kernel, rfl, rfl⟩
theorem wd_489 : sj_in (.fieldLink RX7 19 "StreamJudge$Values" "workspace" "LStreamJudge$Workspace;") := ⟨List.mem_of_getElem? (i := 489) (by decide +kernel), by decide +kernel⟩
theorem fl_X7_19 : sj_fl RX7 19 6 1 (.object "StreamJudge$Workspace") true := ⟨(RX7, TX7, 4), rfl, by decide, wd_489, by decide +kernel, rfl, rfl⟩
theorem wd_491 : sj_in (.fieldLink RX7 23 "StreamJudge$Values" "anyTouched" "Z") := ⟨List.mem_of_getElem? (i := 491) (by decide +kernel), by decide +kernel⟩
theorem fl_X7_23 : sj_fl RX7 23 6 3 .boolean false := ⟨(RX7, TX7, 4), rfl, by decide, wd_491, by decide +kernel, rfl, rfl⟩
theorem wd_319 : sj_in (.methodLink RX7 27 yJ7_fill_53178) := ⟨List.mem_of_getElem? (i := 319) (by decide +kernel), by decide +kernel⟩
theorem kc_X7_27 : sj_cw 1 RX7 27 yJ7_fill_53178 mJ7_fill_53178 2 := ⟨wd_319, wd_70, wd_321, wd_320, fun h => absurd h (by decide), fun h => absurd h (by decide), ⟨by decide, by decide⟩, by decide +kernel⟩
theorem wd_505 : sj_in (.methodLink RX7 33 yX7_solve) := ⟨List.mem_of_getElem? (i := 505) (by decide +kernel), by decide +kernel⟩
theorem wd_508 : sj_in (.code yX7_solve cX7_solve 6 (none)) := ⟨List.mem_of_getElem? (i := 508) (by decide +kernel), by decide +kernel⟩
theorem wd_507 : sj_in (.instanceMethod yX7_solve) := ⟨List.mem_of_getElem? (i := 507) (by decide +kernel), by decide +kernel⟩
theorem wd_15 : sj_in (.selects RX7 yX7_solve yX7_solve) := ⟨List.mem_of_getElem? (i := 15) (by decide +kernel), by decide +kernel⟩
theorem kc_X7_33 : sj_cw 0 RX7 33 yX7_solve mX7_solve 1 := ⟨wd_505, wd_73, wd_508, wd_507, fun _ => wd_15, fun h => absurd h (by decide), ⟨by decide, by decide⟩, by decide +kernel⟩
theorem wd_531 : sj_in (.methodLink RX7 37 yX7_rankIn) := ⟨List.mem_of_getElem? (i := 531) (by decide +kernel), by decide +kernel⟩
theorem wd_533 : sj_in (.code yX7_rankIn cX7_rankIn 1 (some .int)) := ⟨List.mem_of_getElem? (i := 533) (by decide +kernel), by decide +kernel⟩
theorem wd_532 : sj_in (.static yX7_rankIn) := ⟨List.mem_of_getElem? (i := 532) (by decide +kernel), by decide +kernel⟩
theorem kc_X7_37 : sj_cw 1 RX7 37 yX7_rankIn mX7_rankIn 1 := ⟨wd_531, wd_73, wd_533, wd_532, fun h => absurd h (by decide), fun h => absurd h (by decide), ⟨by decide, by decide⟩, by decide +kernel⟩
theorem wd_472 : sj_in (.fieldLinkNest RX7 41 "StreamJudge$Workspace" "queue" "[I" "StreamJudge") := ⟨List.mem_of_getElem? (i := 472) (by decide +kernel), by decide +kernel⟩
theorem fl_X7_41 : sj_fn RX7 41 7 2 := ⟨(RX8, TX8, 4), "StreamJudge", rfl, by decide, wd_472⟩
theorem wd_509 : sj_in (.methodLink RX7 46 yX7_settle) := ⟨List.mem_of_getElem? (i := 509) (by decide +kernel), by decide +kernel⟩
theorem wd_512 : sj_in (.code yX7_settle cX7_settle 9 (some .int)) := ⟨List.mem_of_getElem? (i := 512) (by decide +kernel), by decide +kernel⟩
theorem wd_511 : sj_in (.instanceMethod yX7_settle) := ⟨List.mem_of_getElem? (i := 511) (by decide +kernel), by decide +kernel⟩
theorem wd_16 : sj_in (.selects RX7 yX7_settle yX7_settle) := ⟨List.mem_of_getElem? (i := 16) (by decide +kernel), by decide +kernel⟩
theorem kc_X7_46 : sj_cw 0 RX7 46 yX7_settle mX7_settle 1 := ⟨wd_509, wd_73, wd_512, wd_511, fun _ => wd_16, fun h => absurd h (by decide), ⟨by decide, by decide⟩, by decide +kernel⟩
theorem wd_117 : sj_in (.fieldLink RX7 49 "StreamJudge$Equations" "terms" "[LStreamJudge$Term;") := ⟨List.mem_of_getElem? (i := 117) (by decide +kernel), by decide +kernel⟩
theorem fl_X7_49 : sj_fl RX7 49 1 1 (.array (.object "StreamJudge$Term")) true := ⟨(RX2, TX2, 2), rfl, by decide, wd_117, by decide +kernel, rfl, rfl⟩
theorem wd_513 : sj_in (.methodLink RX7 55 yX8_spread) := ⟨List.mem_of_getElem? (i := 513) (by decide +kernel), by decide +kernel⟩
theorem wd_516 : sj_in (.code yX8_spread cX8_spread 4 (some .boolean)) := ⟨List.mem_of_getElem? (i := 516) (by decide +kernel), by decide +kernel⟩
theorem wd_514 : sj_in (.instanceMethod yX8_spread) := ⟨List.mem_of_getElem? (i := 514) (by decide +kernel), by decide +kernel⟩
theorem wd_515 : sj_in (.selects RX8 yX8_spread yX8_spread) := ⟨List.mem_of_getElem? (i := 515) (by decide +kernel), by decide +kernel⟩
theorem kc_X7_55 : sj_cw 0 RX7 55 yX8_spread mX8_spread 2 := ⟨wd_513, wd_74, wd_516, wd_514, fun _ => wd_515, fun h => absurd h (by decide), ⟨by decide, by decide⟩, by decide +kernel⟩
theorem wd_288 : sj_in (.fieldLink RX7 59 "StreamJudge$Term" "mentions" "[I") := ⟨List.mem_of_getElem? (i := 288) (by decide +kernel), by decide +kernel⟩
theorem fl_X7_59 : sj_fl RX7 59 4 3 (.array .int) true := ⟨(RX5, TX5, 4), rfl, by decide, wd_288, by decide +kernel, rfl, rfl⟩
theorem wd_522 : sj_in (.methodLink RX7 64 yX8_isNeeded) := ⟨List.mem_of_getElem? (i := 522) (by decide +kernel), by decide +kernel⟩
theorem wd_525 : sj_in (.code yX8_isNeeded cX8_isNeeded 2 (some .boolean)) := ⟨List.mem_of_getElem? (i := 525) (by decide +kernel), by decide +kernel⟩
theorem wd_523 : sj_in (.instanceMethod yX8_isNeeded) := ⟨List.mem_of_getElem? (i := 523) (by decide +kernel), by decide +kernel⟩
theorem wd_524 : sj_in (.selects RX8 yX8_isNeeded yX8_isNeeded) := ⟨List.mem_of_getElem? (i := 524) (by decide +kernel), by decide +kernel⟩
theorem kc_X7_64 : sj_cw 0 RX7 64 yX8_isNeeded mX8_isNeeded 1 := ⟨wd_522, wd_74, wd_525, wd_523, fun _ => wd_524, fun h => absurd h (by decide), ⟨by decide, by decide⟩, by decide +kernel⟩
theorem wd_526 : sj_in (.methodLink RX7 68 yX7_neededCell) := ⟨List.mem_of_getElem? (i := 526) (by decide +kernel), by decide +kernel⟩
theorem wd_529 : sj_in (.code yX7_neededCell cX7_neededCell 4 (some .int)) := ⟨List.mem_of_getElem? (i := 529) (by decide +kernel), by decide +kernel⟩
theorem wd_528 : sj_in (.instanceMethod yX7_neededCell) := ⟨List.mem_of_getElem? (i := 528) (by decide +kernel), by decide +kernel⟩
theorem wd_18 : sj_in (.selects RX7 yX7_neededCell yX7_neededCell) := ⟨List.mem_of_getElem? (i := 18) (by decide +kernel), by decide +kernel⟩
theorem kc_X7_68 : sj_cw 0 RX7 68 yX7_neededCell mX7_neededCell 2 := ⟨wd_526, wd_73, wd_529, wd_528, fun _ => wd_18, fun h => absurd h (by decide), ⟨by decide, by decide⟩, by decide +kernel⟩
theorem wd_534 : sj_in (.methodLink RX7 72 yJ9_max_7cf53) := ⟨List.mem_of_getElem? (i := 534) (by decide +kernel), by decide +kernel⟩
theorem km_X7_72 : sj_in (.methodLink RX7 72 yJ9_max_7cf53) := wd_534
theorem wd_113 : sj_in (.fieldLink RX7 78 "StreamJudge$Equations" "modulus" "I") := ⟨List.mem_of_getElem? (i := 113) (by decide +kernel), by decide +kernel⟩
theorem fl_X7_78 : sj_fl RX7 78 1 0 .int false := ⟨(RX2, TX2, 2), rfl, by decide, wd_113, by decide +kernel, rfl, rfl⟩
theorem wd_537 : sj_in (.methodLink RX7 82 yX8_evaluate) := ⟨List.mem_of_getElem? (i := 537) (by decide +kernel), by decide +kernel⟩
theorem wd_540 : sj_in (.code yX8_evaluate cX8_evaluate 5 (some .int)) := ⟨List.mem_of_getElem? (i := 540) (by decide +kernel), by decide +kernel⟩
theorem wd_538 : sj_in (.instanceMethod yX8_evaluate) := ⟨List.mem_of_getElem? (i := 538) (by decide +kernel), by decide +kernel⟩
theorem wd_539 : sj_in (.selects RX8 yX8_evaluate yX8_evaluate) := ⟨List.mem_of_getElem? (i := 539) (by decide +kernel), by decide +kernel⟩
theorem kc_X7_82 : sj_cw 0 RX7 82 yX8_evaluate mX8_evaluate 3 := ⟨wd_537, wd_74, wd_540, wd_538, fun _ => wd_539, fun h => absurd h (by decide), ⟨by decide, by decide⟩, by decide +kernel⟩
theorem wd_469 : sj_in (.fieldLinkNest RX7 86 "StreamJudge$Workspace" "indices" "[I" "StreamJudge") := ⟨List.mem_of_getElem? (i := 469) (by decide +kernel), by decide +kernel⟩
theorem fl_X7_86 : sj_fn RX7 86 7 0 := ⟨(RX8, TX8, 4), "StreamJudge", rfl, by decide, wd_469⟩
theorem wd_530 : sj_in (.methodLink RX7 89 yX5_streamAt) := ⟨List.mem_of_getElem? (i := 530) (by decide +kernel), by decide +kernel⟩
theorem kc_X7_89 : sj_cw 0 RX7 89 yX5_streamAt mX5_streamAt 1 := ⟨wd_530, wd_69, wd_341, wd_339, fun _ => wd_340, fun h => absurd h (by decide), ⟨by decide, by decide⟩, by decide +kernel⟩
theorem wd_689 : sj_in (.methodLink RX7 92 yX8_clearSeen) := ⟨List.mem_of_getElem? (i := 689) (by decide +kernel), by decide +kernel⟩
theorem wd_692 : sj_in (.code yX8_clearSeen cX8_clearSeen 1 (none)) := ⟨List.mem_of_getElem? (i := 692) (by decide +kernel), by decide +kernel⟩
theorem wd_690 : sj_in (.instanceMethod yX8_clearSeen) := ⟨List.mem_of_getElem? (i := 690) (by decide +kernel), by decide +kernel⟩
theorem wd_691 : sj_in (.selects RX8 yX8_clearSeen yX8_clearSeen) := ⟨List.mem_of_getElem? (i := 691) (by decide +kernel), by decide +kernel⟩
theorem kc_X7_92 : sj_cw 0 RX7 92 yX8_clearSeen mX8_clearSeen 0 := ⟨wd_689, wd_74, wd_692, wd_690, fun _ => wd_691, fun h => absurd h (by decide), ⟨by decide, by decide⟩, by decide +kernel⟩
theorem wd_696 : sj_in (.methodLink RX7 95 yX8_see) := ⟨List.mem_of_getElem? (i := 696) (by decide +kernel), by decide +kernel⟩
theorem wd_699 : sj_in (.code yX8_see cX8_see 4 (some .boolean)) := ⟨List.mem_of_getElem? (i := 699) (by decide +kernel), by decide +kernel⟩
theorem wd_697 : sj_in (.instanceMethod yX8_see) := ⟨List.mem_of_getElem? (i := 697) (by decide +kernel), by decide +kernel⟩
theorem wd_698 : sj_in (.selects RX8 yX8_see yX8_see) := ⟨List.mem_of_getElem? (i := 698) (by decide +kernel), by decide +kernel⟩
theorem kc_X7_95 : sj_cw 0 RX7 95 yX8_see mX8_see 1 := ⟨wd_696, wd_74, wd_699, wd_697, fun _ => wd_698, fun h => absurd h (by decide), ⟨by decide, by decide⟩, by decide +kernel⟩
theorem wd_700 : sj_in (.methodLink RX7 98 yX7_collectAtOnce) := ⟨List.mem_of_getElem? (i := 700) (by decide +kernel), by decide +kernel⟩
theorem wd_703 : sj_in (.code yX7_collectAtOnce cX7_collectAtOnce 10 (some .int)) := ⟨List.mem_of_getElem? (i := 703) (by decide +kernel), by decide +kernel⟩
theorem wd_702 : sj_in (.instanceMethod yX7_collectAtOnce) := ⟨List.mem_of_getElem? (i := 702) (by decide +kernel), by decide +kernel⟩
theorem wd_24 : sj_in (.selects RX7 yX7_collectAtOnce yX7_collectAtOnce) := ⟨List.mem_of_getElem? (i := 24) (by decide +kernel), by decide +kernel⟩
theorem kc_X7_98 : sj_cw 0 RX7 98 yX7_collectAtOnce mX7_collectAtOnce 2 := ⟨wd_700, wd_73, wd_703, wd_702, fun _ => wd_24, fun h => absurd h (by decide), ⟨by decide, by decide⟩, by decide +kernel⟩
theorem wd_549 : sj_in (.methodLink RX7 101 yX7_at) := ⟨List.mem_of_getElem? (i := 549) (by decide +kernel), by decide +kernel⟩
theorem wd_552 : sj_in (.code yX7_at cX7_at 4 (some .int)) := ⟨List.mem_of_getElem? (i := 552) (by decide +kernel), by decide +kernel⟩
theorem wd_550 : sj_in (.instanceMethod yX7_at) := ⟨List.mem_of_getElem? (i := 550) (by decide +kernel), by decide +kernel⟩
theorem wd_551 : sj_in (.selects RX7 yX7_at yX7_at) := ⟨List.mem_of_getElem? (i := 551) (by decide +kernel), by decide +kernel⟩
theorem kc_X7_101 : sj_cw 0 RX7 101 yX7_at mX7_at 2 := ⟨wd_549, wd_73, wd_552, wd_550, fun _ => wd_551, fun h => absurd h (by decide), ⟨by decide, by decide⟩, by decide +kernel⟩
theorem wd_632 : sj_in (.methodLink RX7 104 yX7_reach) := ⟨List.mem_of_getElem? (i := 632) (by decide +kernel), by decide +kernel⟩
theorem wd_548 : sj_in (.code yX7_reach cX7_reach 3 (some .int)) := ⟨List.mem_of_getElem? (i := 548) (by decide +kernel), by decide +kernel⟩
theorem wd_546 : sj_in (.instanceMethod yX7_reach) := ⟨List.mem_of_getElem? (i := 546) (by decide +kernel), by decide +kernel⟩
theorem wd_547 : sj_in (.selects RX7 yX7_reach yX7_reach) := ⟨List.mem_of_getElem? (i := 547) (by decide +kernel), by decide +kernel⟩
theorem kc_X7_104 : sj_cw 0 RX7 104 yX7_reach mX7_reach 1 := ⟨wd_632, wd_73, wd_548, wd_546, fun _ => wd_547, fun h => absurd h (by decide), ⟨by decide, by decide⟩, by decide +kernel⟩
theorem wd_633 : sj_in (.methodLink RX7 107 yJ6_bitCount_0f7a4) := ⟨List.mem_of_getElem? (i := 633) (by decide +kernel), by decide +kernel⟩
theorem wd_76 : sj_in (.initialized RJ6) := ⟨List.mem_of_getElem? (i := 76) (by decide +kernel), by decide +kernel⟩
theorem wd_635 : sj_in (.code yJ6_bitCount_0f7a4 cJ6_bitCount_0f7a4 1 (some .int)) := ⟨List.mem_of_getElem? (i := 635) (by decide +kernel), by decide +kernel⟩
theorem wd_634 : sj_in (.static yJ6_bitCount_0f7a4) := ⟨List.mem_of_getElem? (i := 634) (by decide +kernel), by decide +kernel⟩
theorem kc_X7_107 : sj_cw 1 RX7 107 yJ6_bitCount_0f7a4 mJ6_bitCount_0f7a4 1 := ⟨wd_633, wd_76, wd_635, wd_634, fun h => absurd h (by decide), fun h => absurd h (by decide), ⟨by decide, by decide⟩, by decide +kernel⟩
theorem wd_647 : sj_in (.methodLink RX7 112 yX7_lengthBefore) := ⟨List.mem_of_getElem? (i := 647) (by decide +kernel), by decide +kernel⟩
theorem wd_650 : sj_in (.code yX7_lengthBefore cX7_lengthBefore 4 (some .int)) := ⟨List.mem_of_getElem? (i := 650) (by decide +kernel), by decide +kernel⟩
theorem wd_649 : sj_in (.instanceMethod yX7_lengthBefore) := ⟨List.mem_of_getElem? (i := 649) (by decide +kernel), by decide +kernel⟩
theorem wd_23 : sj_in (.selects RX7 yX7_lengthBefore yX7_lengthBefore) := ⟨List.mem_of_getElem? (i := 23) (by decide +kernel), by decide +kernel⟩
theorem kc_X7_112 : sj_cw 0 RX7 112 yX7_lengthBefore mX7_lengthBefore 2 := ⟨wd_647, wd_73, wd_650, wd_649, fun _ => wd_23, fun h => absurd h (by decide), ⟨by decide, by decide⟩, by decide +kernel⟩
theorem wd_655 : sj_in (.methodLink RX7 115 yX7_period) := ⟨List.mem_of_getElem? (i := 655) (by decide +kernel), by decide +kernel⟩
theorem wd_646 : sj_in (.code yX7_period cX7_period 3 (some .int)) := ⟨List.mem_of_getElem? (i := 646) (by decide +kernel), by decide +kernel⟩
theorem wd_644 : sj_in (.instanceMethod yX7_period) := ⟨List.mem_of_getElem? (i := 644) (by decide +kernel), by decide +kernel⟩
theorem wd_645 : sj_in (.selects RX7 yX7_period yX7_period) := ⟨List.mem_of_getElem? (i := 645) (by decide +kernel), by decide +kernel⟩
theorem kc_X7_115 : sj_cw 0 RX7 115 yX7_period mX7_period 1 := ⟨wd_655, wd_73, wd_646, wd_644, fun _ => wd_645, fun h => absurd h (by decide), ⟨by decide, by decide⟩, by decide +kernel⟩
theorem wd_676 : sj_in (.methodLink RX7 118 yX7_firstParting) := ⟨List.mem_of_getElem? (i := 676) (by decide +kernel), by decide +kernel⟩
theorem wd_667 : sj_in (.code yX7_firstParting cX7_firstParting 6 (some .int)) := ⟨List.mem_of_getElem? (i := 667) (by decide +kernel), by decide +kernel⟩
theorem wd_665 : sj_in (.instanceMethod yX7_firstParting) := ⟨List.mem_of_getElem? (i := 665) (by decide +kernel), by decide +kernel⟩
theorem wd_666 : sj_in (.selects RX7 yX7_firstParting yX7_firstParting) := ⟨List.mem_of_getElem? (i := 666) (by decide +kernel), by decide +kernel⟩
theorem kc_X7_118 : sj_cw 0 RX7 118 yX7_firstParting mX7_firstParting 2 := ⟨wd_676, wd_73, wd_667, wd_665, fun _ => wd_666, fun h => absurd h (by decide), ⟨by decide, by decide⟩, by decide +kernel⟩
theorem wd_467 : sj_in (.methodLink RX8 3 Lib.objectInit) := ⟨List.mem_of_getElem? (i := 467) (by decide +kernel), by decide +kernel⟩
theorem km_X8_3 : sj_in (.methodLink RX8 3 Lib.objectInit) := wd_467
theorem wd_468 : sj_in (.fieldLink RX8 9 "StreamJudge$Workspace" "indices" "[I") := ⟨List.mem_of_getElem? (i := 468) (by decide +kernel), by decide +kernel⟩
theorem fl_X8_9 : sj_fl RX8 9 7 0 (.array .int) true := ⟨(RX8, TX8, 4), rfl, by decide, wd_468, by decide +kernel, rfl, rfl⟩
theorem wd_470 : sj_in (.fieldLink RX8 15 "StreamJudge$Workspace" "results" "[I") := ⟨List.mem_of_getElem? (i := 470) (by decide +kernel), by decide +kernel⟩
theorem fl_X8_15 : sj_fl RX8 15 7 1 (.array .int) true := ⟨(RX8, TX8, 4), rfl, by decide, wd_470, by decide +kernel, rfl, rfl⟩
theorem wd_471 : sj_in (.fieldLink RX8 18 "StreamJudge$Workspace" "queue" "[I") := ⟨List.mem_of_getElem? (i := 471) (by decide +kernel), by decide +kernel⟩
theorem fl_X8_18 : sj_fl RX8 18 7 2 (.array .int) true := ⟨(RX8, TX8, 4), rfl, by decide, wd_471, by decide +kernel, rfl, rfl⟩
theorem wd_473 : sj_in (.fieldLink RX8 21 "StreamJudge$Workspace" "seen" "[J") := ⟨List.mem_of_getElem? (i := 473) (by decide +kernel), by decide +kernel⟩
theorem fl_X8_21 : sj_fl RX8 21 7 3 (.array .long) true := ⟨(RX8, TX8, 4), rfl, by decide, wd_473, by decide +kernel, rfl, rfl⟩
theorem wd_275 : sj_in (.fieldLink RX8 25 "StreamJudge$Term" "size" "I") := ⟨List.mem_of_getElem? (i := 275) (by decide +kernel), by decide +kernel⟩
theorem fl_X8_25 : sj_fl RX8 25 4 0 .int true := ⟨(RX5, TX5, 4), rfl, by decide, wd_275, by decide +kernel, rfl, rfl⟩
theorem kd_X8_31 : sj_in (.constant RX8 31 (zI (1000000000))) := ⟨List.mem_of_getElem? (i := 517) (by decide +kernel), by decide +kernel⟩
theorem wd_518 : sj_in (.methodLink RX8 32 yX8_spreadPart) := ⟨List.mem_of_getElem? (i := 518) (by decide +kernel), by decide +kernel⟩
theorem wd_521 : sj_in (.code yX8_spreadPart cX8_spreadPart 7 (none)) := ⟨List.mem_of_getElem? (i := 521) (by decide +kernel), by decide +kernel⟩
theorem wd_520 : sj_in (.instanceMethod yX8_spreadPart) := ⟨List.mem_of_getElem? (i := 520) (by decide +kernel), by decide +kernel⟩
theorem wd_17 : sj_in (.selects RX8 yX8_spreadPart yX8_spreadPart) := ⟨List.mem_of_getElem? (i := 17) (by decide +kernel), by decide +kernel⟩
theorem kc_X8_32 : sj_cw 0 RX8 32 yX8_spreadPart mX8_spreadPart 3 := ⟨wd_518, wd_74, wd_521, wd_520, fun _ => wd_17, fun h => absurd h (by decide), ⟨by decide, by decide⟩, by decide +kernel⟩
theorem wd_281 : sj_in (.fieldLink RX8 36 "StreamJudge$Term" "codes" "[I") := ⟨List.mem_of_getElem? (i := 281) (by decide +kernel), by decide +kernel⟩
theorem fl_X8_36 : sj_fl RX8 36 4 1 (.array .int) true := ⟨(RX5, TX5, 4), rfl, by decide, wd_281, by decide +kernel, rfl, rfl⟩
theorem wd_284 : sj_in (.fieldLink RX8 39 "StreamJudge$Term" "ends" "[I") := ⟨List.mem_of_getElem? (i := 284) (by decide +kernel), by decide +kernel⟩
theorem fl_X8_39 : sj_fl RX8 39 4 2 (.array .int) true := ⟨(RX5, TX5, 4), rfl, by decide, wd_284, by decide +kernel, rfl, rfl⟩
theorem wd_541 : sj_in (.methodLink RX8 44 yX8_resultOf) := ⟨List.mem_of_getElem? (i := 541) (by decide +kernel), by decide +kernel⟩
theorem wd_544 : sj_in (.code yX8_resultOf cX8_resultOf 6 (some .int)) := ⟨List.mem_of_getElem? (i := 544) (by decide +kernel), by decide +kernel⟩
theorem wd_543 : sj_in (.instanceMethod yX8_resultOf) := ⟨List.mem_of_getElem? (i := 543) (by decide +kernel), by decide +kernel⟩
theorem wd_19 : sj_in (.selects RX8 yX8_resultOf yX8_resultOf) := ⟨List.mem_of_getElem? (i := 19) (by decide +kernel), by decide +kernel⟩
theorem kc_X8_44 : sj_cw 0 RX8 44 yX8_resultOf mX8_resultOf 4 := ⟨wd_541, wd_74, wd_544, wd_543, fun _ => wd_19, fun h => absurd h (by decide), ⟨by decide, by decide⟩, by decide +kernel⟩
theorem wd_693 : sj_in (.methodLink RX8 50 yJ7_fill_d0a16) := ⟨List.mem_of_getElem? (i := 693) (by decide +kernel), by decide +kernel⟩
theorem wd_695 : sj_in (.code yJ7_fill_d0a16 cJ7_fill_d0a16 5 (none)) := ⟨List.mem_of_getElem? (i := 695) (by decide +kernel), by decide +kernel⟩
theorem wd_694 : sj_in (.static yJ7_fill_d0a16) := ⟨List.mem_of_getElem? (i := 694) (by decide +kernel), by decide +kernel⟩
theorem kc_X8_50 : sj_cw 1 RX8 50 yJ7_fill_d0a16 mJ7_fill_d0a16 2 := ⟨wd_693, wd_70, wd_695, wd_694, fun h => absurd h (by decide), fun h => absurd h (by decide), ⟨by decide, by decide⟩, by decide +kernel⟩
theorem wd_708 : sj_in (.methodLink RX8 56 yJ9_max_7cf53) := ⟨List.mem_of_getElem? (i := 708) (by decide +kernel), by decide +kernel⟩
theorem km_X8_56 : sj_in (.methodLink RX8 56 yJ9_max_7cf53) := wd_708
theorem wd_713 : sj_in (.methodLink RX8 62 yJ6_bitCount_0f7a4) := ⟨List.mem_of_getElem? (i := 713) (by decide +kernel), by decide +kernel⟩
theorem kc_X8_62 : sj_cw 1 RX8 62 yJ6_bitCount_0f7a4 mJ6_bitCount_0f7a4 1 := ⟨wd_713, wd_76, wd_635, wd_634, fun h => absurd h (by decide), fun h => absurd h (by decide), ⟨by decide, by decide⟩, by decide +kernel⟩
theorem wd_82 : sj_in (.methodLink RX9 3 Lib.objectInit) := ⟨List.mem_of_getElem? (i := 82) (by decide +kernel), by decide +kernel⟩
theorem km_X9_3 : sj_in (.methodLink RX9 3 Lib.objectInit) := wd_82
theorem wd_85 : sj_in (.classLink RX9 9 RX6) := ⟨List.mem_of_getElem? (i := 85) (by decide +kernel), by decide +kernel⟩
theorem kl_X9_9 : sj_in (.classLink RX9 9 RX6) := wd_85
theorem wd_87 : sj_in (.methodLinkNest RX9 11 yX6_init "StreamJudge") := ⟨List.mem_of_getElem? (i := 87) (by decide +kernel), by decide +kernel⟩
theorem wd_89 : sj_in (.code yX6_init cX6_init 1 (none)) := ⟨List.mem_of_getElem? (i := 89) (by decide +kernel), by decide +kernel⟩
theorem wd_88 : sj_in (.instanceMethod yX6_init) := ⟨List.mem_of_getElem? (i := 88) (by decide +kernel), by decide +kernel⟩
theorem kc_X9_11 : sj_cw 3 RX9 11 yX6_init mX6_init 0 := ⟨⟨_, wd_87⟩, wd_63, wd_89, wd_88, fun h => absurd h (by decide), fun _ => ⟨rfl, rfl⟩, ⟨by decide, by decide⟩, by decide +kernel⟩
theorem wd_163 : sj_in (.fieldLink RX9 12 "StreamJudge" "text" "LStreamJudge$Text;") := ⟨List.mem_of_getElem? (i := 163) (by decide +kernel), by decide +kernel⟩
theorem fl_X9_12 : sj_fl RX9 12 8 0 (.object "StreamJudge$Text") true := ⟨(RX9, TX9, 9), rfl, by decide, wd_163, by decide +kernel, rfl, rfl⟩
theorem wd_103 : sj_in (.classLink RX9 16 RX2) := ⟨List.mem_of_getElem? (i := 103) (by decide +kernel), by decide +kernel⟩
theorem kl_X9_16 : sj_in (.classLink RX9 16 RX2) := wd_103
theorem wd_105 : sj_in (.methodLinkNest RX9 18 yX2_init "StreamJudge") := ⟨List.mem_of_getElem? (i := 105) (by decide +kernel), by decide +kernel⟩
theorem kc_X9_18 : sj_cw 3 RX9 18 yX2_init mX2_init 0 := ⟨⟨_, wd_105⟩, wd_64, wd_107, wd_106, fun h => absurd h (by decide), fun _ => ⟨rfl, rfl⟩, ⟨by decide, by decide⟩, by decide +kernel⟩
theorem wd_164 : sj_in (.fieldLink RX9 19 "StreamJudge" "present" "LStreamJudge$Equations;") := ⟨List.mem_of_getElem? (i := 164) (by decide +kernel), by decide +kernel⟩
theorem fl_X9_19 : sj_fl RX9 19 8 1 (.object "StreamJudge$Equations") true := ⟨(RX9, TX9, 9), rfl, by decide, wd_164, by decide +kernel, rfl, rfl⟩
theorem wd_123 : sj_in (.classLink RX9 23 RX3) := ⟨List.mem_of_getElem? (i := 123) (by decide +kernel), by decide +kernel⟩
theorem kl_X9_23 : sj_in (.classLink RX9 23 RX3) := wd_123
theorem wd_125 : sj_in (.methodLinkNest RX9 25 yX3_init "StreamJudge") := ⟨List.mem_of_getElem? (i := 125) (by decide +kernel), by decide +kernel⟩
theorem wd_127 : sj_in (.code yX3_init cX3_init 1 (none)) := ⟨List.mem_of_getElem? (i := 127) (by decide +kernel), by decide +kernel⟩
theorem wd_126 : sj_in (.instanceMethod yX3_init) := ⟨List.mem_of_getElem? (i := 126) (by decide +kernel), by decide +kernel⟩
theorem kc_X9_25 : sj_cw 3 RX9 25 yX3_init mX3_init 0 := ⟨⟨_, wd_125⟩, wd_65, wd_127, wd_126, fun h => absurd h (by decide), fun _ => ⟨rfl, rfl⟩, ⟨by decide, by decide⟩, by decide +kernel⟩
theorem wd_165 : sj_in (.fieldLink RX9 26 "StreamJudge" "history" "LStreamJudge$History;") := ⟨List.mem_of_getElem? (i := 165) (by decide +kernel), by decide +kernel⟩
theorem fl_X9_26 : sj_fl RX9 26 8 2 (.object "StreamJudge$History") true := ⟨(RX9, TX9, 9), rfl, by decide, wd_165, by decide +kernel, rfl, rfl⟩
theorem wd_142 : sj_in (.classLink RX9 30 RX4) := ⟨List.mem_of_getElem? (i := 142) (by decide +kernel), by decide +kernel⟩
theorem kl_X9_30 : sj_in (.classLink RX9 30 RX4) := wd_142
theorem wd_144 : sj_in (.methodLinkNest RX9 32 yX4_init "StreamJudge") := ⟨List.mem_of_getElem? (i := 144) (by decide +kernel), by decide +kernel⟩
theorem wd_146 : sj_in (.code yX4_init cX4_init 1 (none)) := ⟨List.mem_of_getElem? (i := 146) (by decide +kernel), by decide +kernel⟩
theorem wd_145 : sj_in (.instanceMethod yX4_init) := ⟨List.mem_of_getElem? (i := 145) (by decide +kernel), by decide +kernel⟩
theorem kc_X9_32 : sj_cw 3 RX9 32 yX4_init mX4_init 0 := ⟨⟨_, wd_144⟩, wd_66, wd_146, wd_145, fun h => absurd h (by decide), fun _ => ⟨rfl, rfl⟩, ⟨by decide, by decide⟩, by decide +kernel⟩
theorem wd_166 : sj_in (.fieldLink RX9 33 "StreamJudge" "rewriting" "LStreamJudge$Rewriting;") := ⟨List.mem_of_getElem? (i := 166) (by decide +kernel), by decide +kernel⟩
theorem fl_X9_33 : sj_fl RX9 33 8 3 (.object "StreamJudge$Rewriting") true := ⟨(RX9, TX9, 9), rfl, by decide, wd_166, by decide +kernel, rfl, rfl⟩
theorem wd_167 : sj_in (.fieldLink RX9 37 "StreamJudge" "images" "[LStreamJudge$Equations;") := ⟨List.mem_of_getElem? (i := 167) (by decide +kernel), by decide +kernel⟩
theorem fl_X9_37 : sj_fl RX9 37 8 4 (.array (.object "StreamJudge$Equations")) true := ⟨(RX9, TX9, 9), rfl, by decide, wd_167, by decide +kernel, rfl, rfl⟩
theorem wd_161 : sj_in (.classLink RX9 41 RX7) := ⟨List.mem_of_getElem? (i := 161) (by decide +kernel), by decide +kernel⟩
theorem kl_X9_41 : sj_in (.classLink RX9 41 RX7) := wd_161
theorem wd_168 : sj_in (.fieldLink RX9 43 "StreamJudge" "imageValues" "[LStreamJudge$Values;") := ⟨List.mem_of_getElem? (i := 168) (by decide +kernel), by decide +kernel⟩
theorem fl_X9_43 : sj_fl RX9 43 8 5 (.array (.object "StreamJudge$Values")) true := ⟨(RX9, TX9, 9), rfl, by decide, wd_168, by decide +kernel, rfl, rfl⟩
theorem wd_195 : sj_in (.methodLink RX9 47 yX6_append) := ⟨List.mem_of_getElem? (i := 195) (by decide +kernel), by decide +kernel⟩
theorem wd_198 : sj_in (.code yX6_append cX6_append 2 (some .int)) := ⟨List.mem_of_getElem? (i := 198) (by decide +kernel), by decide +kernel⟩
theorem wd_196 : sj_in (.instanceMethod yX6_append) := ⟨List.mem_of_getElem? (i := 196) (by decide +kernel), by decide +kernel⟩
theorem wd_197 : sj_in (.selects RX6 yX6_append yX6_append) := ⟨List.mem_of_getElem? (i := 197) (by decide +kernel), by decide +kernel⟩
theorem kc_X9_47 : sj_cw 0 RX9 47 yX6_append mX6_append 1 := ⟨wd_195, wd_63, wd_198, wd_196, fun _ => wd_197, fun h => absurd h (by decide), ⟨by decide, by decide⟩, by decide +kernel⟩
theorem wd_203 : sj_in (.methodLink RX9 51 yX6_empty) := ⟨List.mem_of_getElem? (i := 203) (by decide +kernel), by decide +kernel⟩
theorem wd_206 : sj_in (.code yX6_empty cX6_empty 2 (some .int)) := ⟨List.mem_of_getElem? (i := 206) (by decide +kernel), by decide +kernel⟩
theorem wd_204 : sj_in (.instanceMethod yX6_empty) := ⟨List.mem_of_getElem? (i := 204) (by decide +kernel), by decide +kernel⟩
theorem wd_205 : sj_in (.selects RX6 yX6_empty yX6_empty) := ⟨List.mem_of_getElem? (i := 205) (by decide +kernel), by decide +kernel⟩
theorem kc_X9_51 : sj_cw 0 RX9 51 yX6_empty mX6_empty 0 := ⟨wd_203, wd_63, wd_206, wd_204, fun _ => wd_205, fun h => absurd h (by decide), ⟨by decide, by decide⟩, by decide +kernel⟩
theorem wd_211 : sj_in (.methodLink RX9 55 yX6_firstFault) := ⟨List.mem_of_getElem? (i := 211) (by decide +kernel), by decide +kernel⟩
theorem wd_214 : sj_in (.code yX6_firstFault cX6_firstFault 6 (some .int)) := ⟨List.mem_of_getElem? (i := 214) (by decide +kernel), by decide +kernel⟩
theorem wd_212 : sj_in (.instanceMethod yX6_firstFault) := ⟨List.mem_of_getElem? (i := 212) (by decide +kernel), by decide +kernel⟩
theorem wd_213 : sj_in (.selects RX6 yX6_firstFault yX6_firstFault) := ⟨List.mem_of_getElem? (i := 213) (by decide +kernel), by decide +kernel⟩
theorem kc_X9_55 : sj_cw 0 RX9 55 yX6_firstFault mX6_firstFault 0 := ⟨wd_211, wd_63, wd_214, wd_212, fun _ => wd_213, fun h => absurd h (by decide), ⟨by decide, by decide⟩, by decide +kernel⟩
theorem wd_235 : sj_in (.methodLink RX9 58 yX9_isStream) := ⟨List.mem_of_getElem? (i := 235) (by decide +kernel), by decide +kernel⟩
theorem wd_237 : sj_in (.code yX9_isStream cX9_isStream 1 (some .boolean)) := ⟨List.mem_of_getElem? (i := 237) (by decide +kernel), by decide +kernel⟩
theorem wd_236 : sj_in (.static yX9_isStream) := ⟨List.mem_of_getElem? (i := 236) (by decide +kernel), by decide +kernel⟩
theorem kc_X9_58 : sj_cw 1 RX9 58 yX9_isStream mX9_isStream 1 := ⟨wd_235, wd_62, wd_237, wd_236, fun h => absurd h (by decide), fun h => absurd h (by decide), ⟨by decide, by decide⟩, by decide +kernel⟩
theorem wd_238 : sj_in (.methodLink RX9 62 yX6_read) := ⟨List.mem_of_getElem? (i := 238) (by decide +kernel), by decide +kernel⟩
theorem wd_241 : sj_in (.code yX6_read cX6_read 5 (some (.object "StreamJudge$Term"))) := ⟨List.mem_of_getElem? (i := 241) (by decide +kernel), by decide +kernel⟩
theorem wd_239 : sj_in (.instanceMethod yX6_read) := ⟨List.mem_of_getElem? (i := 239) (by decide +kernel), by decide +kernel⟩
theorem wd_240 : sj_in (.selects RX6 yX6_read yX6_read) := ⟨List.mem_of_getElem? (i := 240) (by decide +kernel), by decide +kernel⟩
theorem kc_X9_62 : sj_cw 0 RX9 62 yX6_read mX6_read 0 := ⟨wd_238, wd_63, wd_241, wd_239, fun _ => wd_240, fun h => absurd h (by decide), ⟨by decide, by decide⟩, by decide +kernel⟩
theorem wd_298 : sj_in (.methodLink RX9 66 yX9_beginChange) := ⟨List.mem_of_getElem? (i := 298) (by decide +kernel), by decide +kernel⟩
theorem wd_301 : sj_in (.code yX9_beginChange cX9_beginChange 1 (none)) := ⟨List.mem_of_getElem? (i := 301) (by decide +kernel), by decide +kernel⟩
theorem wd_300 : sj_in (.instanceMethod yX9_beginChange) := ⟨List.mem_of_getElem? (i := 300) (by decide +kernel), by decide +kernel⟩
theorem wd_0 : sj_in (.selects RX9 yX9_beginChange yX9_beginChange) := ⟨List.mem_of_getElem? (i := 0) (by decide +kernel), by decide +kernel⟩
theorem kc_X9_66 : sj_cw 0 RX9 66 yX9_beginChange mX9_beginChange 0 := ⟨wd_298, wd_62, wd_301, wd_300, fun _ => wd_0, fun h => absurd h (by decide), ⟨by decide, by decide⟩, by decide +kernel⟩
theorem wd_116 : sj_in (.fieldLink RX9 69 "StreamJudge$Equations" "terms" "[LStreamJudge$Term;") := ⟨List.mem_of_getElem? (i := 116) (by decide +kernel), by decide +kernel⟩
theorem fl_X9_69 : sj_fl RX9 69 1 1 (.array (.object "StreamJudge$Term")) true := ⟨(RX2, TX2, 2), rfl, by decide, wd_116, by decide +kernel, rfl, rfl⟩
theorem wd_278 : sj_in (.fieldLink RX9 73 "StreamJudge$Term" "size" "I") := ⟨List.mem_of_getElem? (i := 278) (by decide +kernel), by decide +kernel⟩
theorem fl_X9_73 : sj_fl RX9 73 4 0 .int true := ⟨(RX5, TX5, 4), rfl, by decide, wd_278, by decide +kernel, rfl, rfl⟩
theorem wd_112 : sj_in (.fieldLink RX9 79 "StreamJudge$Equations" "modulus" "I") := ⟨List.mem_of_getElem? (i := 112) (by decide +kernel), by decide +kernel⟩
theorem fl_X9_79 : sj_fl RX9 79 1 0 .int false := ⟨(RX2, TX2, 2), rfl, by decide, wd_112, by decide +kernel, rfl, rfl⟩
theorem wd_334 : sj_in (.methodLink RX9 82 yX5_sizeWith) := ⟨List.mem_of_getElem? (i := 334) (by decide +kernel), by decide +kernel⟩
theorem kc_X9_82 : sj_cw 0 RX9 82 yX5_sizeWith mX5_sizeWith 2 := ⟨wd_334, wd_69, wd_337, wd_335, fun _ => wd_336, fun h => absurd h (by decide), ⟨by decide, by decide⟩, by decide +kernel⟩
theorem wd_342 : sj_in (.methodLink RX9 86 yX5_with) := ⟨List.mem_of_getElem? (i := 342) (by decide +kernel), by decide +kernel⟩
theorem wd_345 : sj_in (.code yX5_with cX5_with 6 (some (.object "StreamJudge$Term"))) := ⟨List.mem_of_getElem? (i := 345) (by decide +kernel), by decide +kernel⟩
theorem wd_343 : sj_in (.instanceMethod yX5_with) := ⟨List.mem_of_getElem? (i := 343) (by decide +kernel), by decide +kernel⟩
theorem wd_344 : sj_in (.selects RX5 yX5_with yX5_with) := ⟨List.mem_of_getElem? (i := 344) (by decide +kernel), by decide +kernel⟩
theorem kc_X9_86 : sj_cw 0 RX9 86 yX5_with mX5_with 2 := ⟨wd_342, wd_69, wd_345, wd_343, fun _ => wd_344, fun h => absurd h (by decide), ⟨by decide, by decide⟩, by decide +kernel⟩
theorem wd_354 : sj_in (.methodLink RX9 90 yX4_load) := ⟨List.mem_of_getElem? (i := 354) (by decide +kernel), by decide +kernel⟩
theorem wd_357 : sj_in (.code yX4_load cX4_load 2 (none)) := ⟨List.mem_of_getElem? (i := 357) (by decide +kernel), by decide +kernel⟩
theorem wd_355 : sj_in (.instanceMethod yX4_load) := ⟨List.mem_of_getElem? (i := 355) (by decide +kernel), by decide +kernel⟩
theorem wd_356 : sj_in (.selects RX4 yX4_load yX4_load) := ⟨List.mem_of_getElem? (i := 356) (by decide +kernel), by decide +kernel⟩
theorem kc_X9_90 : sj_cw 0 RX9 90 yX4_load mX4_load 1 := ⟨wd_354, wd_66, wd_357, wd_355, fun _ => wd_356, fun h => absurd h (by decide), ⟨by decide, by decide⟩, by decide +kernel⟩
theorem wd_360 : sj_in (.methodLink RX9 94 yX4_applyAll) := ⟨List.mem_of_getElem? (i := 360) (by decide +kernel), by decide +kernel⟩
theorem wd_363 : sj_in (.code yX4_applyAll cX4_applyAll 3 (some .int)) := ⟨List.mem_of_getElem? (i := 363) (by decide +kernel), by decide +kernel⟩
theorem wd_361 : sj_in (.instanceMethod yX4_applyAll) := ⟨List.mem_of_getElem? (i := 361) (by decide +kernel), by decide +kernel⟩
theorem wd_362 : sj_in (.selects RX4 yX4_applyAll yX4_applyAll) := ⟨List.mem_of_getElem? (i := 362) (by decide +kernel), by decide +kernel⟩
theorem kc_X9_94 : sj_cw 0 RX9 94 yX4_applyAll mX4_applyAll 0 := ⟨wd_360, wd_66, wd_363, wd_361, fun _ => wd_362, fun h => absurd h (by decide), ⟨by decide, by decide⟩, by decide +kernel⟩
theorem wd_412 : sj_in (.methodLink RX9 97 yX4_result) := ⟨List.mem_of_getElem? (i := 412) (by decide +kernel), by decide +kernel⟩
theorem wd_415 : sj_in (.code yX4_result cX4_result 1 (some (.object "StreamJudge$Term"))) := ⟨List.mem_of_getElem? (i := 415) (by decide +kernel), by decide +kernel⟩
theorem wd_413 : sj_in (.instanceMethod yX4_result) := ⟨List.mem_of_getElem? (i := 413) (by decide +kernel), by decide +kernel⟩
theorem wd_414 : sj_in (.selects RX4 yX4_result yX4_result) := ⟨List.mem_of_getElem? (i := 414) (by decide +kernel), by decide +kernel⟩
theorem kc_X9_97 : sj_cw 0 RX9 97 yX4_result mX4_result 0 := ⟨wd_412, wd_66, wd_415, wd_413, fun _ => wd_414, fun h => absurd h (by decide), ⟨by decide, by decide⟩, by decide +kernel⟩
theorem wd_134 : sj_in (.fieldLinkNest RX9 100 "StreamJudge$History" "count" "I" "StreamJudge") := ⟨List.mem_of_getElem? (i := 134) (by decide +kernel), by decide +kernel⟩
theorem fl_X9_100 : sj_fn RX9 100 2 2 := ⟨(RX3, TX3, 3), "StreamJudge", rfl, by decide, wd_134⟩
theorem wd_422 : sj_in (.methodLink RX9 103 yX3_restore) := ⟨List.mem_of_getElem? (i := 422) (by decide +kernel), by decide +kernel⟩
theorem wd_425 : sj_in (.code yX3_restore cX3_restore 3 (none)) := ⟨List.mem_of_getElem? (i := 425) (by decide +kernel), by decide +kernel⟩
theorem wd_423 : sj_in (.instanceMethod yX3_restore) := ⟨List.mem_of_getElem? (i := 423) (by decide +kernel), by decide +kernel⟩
theorem wd_424 : sj_in (.selects RX3 yX3_restore yX3_restore) := ⟨List.mem_of_getElem? (i := 424) (by decide +kernel), by decide +kernel⟩
theorem kc_X9_103 : sj_cw 0 RX9 103 yX3_restore mX3_restore 1 := ⟨wd_422, wd_65, wd_425, wd_423, fun _ => wd_424, fun h => absurd h (by decide), ⟨by decide, by decide⟩, by decide +kernel⟩
theorem wd_311 : sj_in (.methodLink RX9 107 yX9_forgetPresentValues) := ⟨List.mem_of_getElem? (i := 311) (by decide +kernel), by decide +kernel⟩
theorem wd_314 : sj_in (.code yX9_forgetPresentValues cX9_forgetPresentValues 1 (none)) := ⟨List.mem_of_getElem? (i := 314) (by decide +kernel), by decide +kernel⟩
theorem wd_313 : sj_in (.instanceMethod yX9_forgetPresentValues) := ⟨List.mem_of_getElem? (i := 313) (by decide +kernel), by decide +kernel⟩
theorem wd_1 : sj_in (.selects RX9 yX9_forgetPresentValues yX9_forgetPresentValues) := ⟨List.mem_of_getElem? (i := 1) (by decide +kernel), by decide +kernel⟩
theorem kc_X9_107 : sj_cw 0 RX9 107 yX9_forgetPresentValues mX9_forgetPresentValues 0 := ⟨wd_311, wd_62, wd_314, wd_313, fun _ => wd_1, fun h => absurd h (by decide), ⟨by decide, by decide⟩, by decide +kernel⟩
theorem wd_430 : sj_in (.methodLink RX9 110 yX2_count) := ⟨List.mem_of_getElem? (i := 430) (by decide +kernel), by decide +kernel⟩
theorem wd_433 : sj_in (.code yX2_count cX2_count 3 (some .int)) := ⟨List.mem_of_getElem? (i := 433) (by decide +kernel), by decide +kernel⟩
theorem wd_431 : sj_in (.instanceMethod yX2_count) := ⟨List.mem_of_getElem? (i := 431) (by decide +kernel), by decide +kernel⟩
theorem wd_432 : sj_in (.selects RX2 yX2_count yX2_count) := ⟨List.mem_of_getElem? (i := 432) (by decide +kernel), by decide +kernel⟩
theorem kc_X9_110 : sj_cw 0 RX9 110 yX2_count mX2_count 0 := ⟨wd_430, wd_64, wd_433, wd_431, fun _ => wd_432, fun h => absurd h (by decide), ⟨by decide, by decide⟩, by decide +kernel⟩
theorem wd_434 : sj_in (.methodLink RX9 112 yX2_totalSize) := ⟨List.mem_of_getElem? (i := 434) (by decide +kernel), by decide +kernel⟩
theorem wd_437 : sj_in (.code yX2_totalSize cX2_totalSize 3 (some .int)) := ⟨List.mem_of_getElem? (i := 437) (by decide +kernel), by decide +kernel⟩
theorem wd_435 : sj_in (.instanceMethod yX2_totalSize) := ⟨List.mem_of_getElem? (i := 435) (by decide +kernel), by decide +kernel⟩
theorem wd_436 : sj_in (.selects RX2 yX2_totalSize yX2_totalSize) := ⟨List.mem_of_getElem? (i := 436) (by decide +kernel), by decide +kernel⟩
theorem kc_X9_112 : sj_cw 0 RX9 112 yX2_totalSize mX2_totalSize 0 := ⟨wd_434, wd_64, wd_437, wd_435, fun _ => wd_436, fun h => absurd h (by decide), ⟨by decide, by decide⟩, by decide +kernel⟩
theorem wd_438 : sj_in (.methodLink RX9 115 yX2_isPlain) := ⟨List.mem_of_getElem? (i := 438) (by decide +kernel), by decide +kernel⟩
theorem wd_441 : sj_in (.code yX2_isPlain cX2_isPlain 2 (some .boolean)) := ⟨List.mem_of_getElem? (i := 441) (by decide +kernel), by decide +kernel⟩
theorem wd_439 : sj_in (.instanceMethod yX2_isPlain) := ⟨List.mem_of_getElem? (i := 439) (by decide +kernel), by decide +kernel⟩
theorem wd_440 : sj_in (.selects RX2 yX2_isPlain yX2_isPlain) := ⟨List.mem_of_getElem? (i := 440) (by decide +kernel), by decide +kernel⟩
theorem kc_X9_115 : sj_cw 0 RX9 115 yX2_isPlain mX2_isPlain 0 := ⟨wd_438, wd_64, wd_441, wd_439, fun _ => wd_440, fun h => absurd h (by decide), ⟨by decide, by decide⟩, by decide +kernel⟩
theorem wd_94 : sj_in (.fieldLinkNest RX9 119 "StreamJudge$Text" "length" "I" "StreamJudge") := ⟨List.mem_of_getElem? (i := 94) (by decide +kernel), by decide +kernel⟩
theorem fl_X9_119 : sj_fn RX9 119 5 2 := ⟨(RX6, TX6, 3), "StreamJudge", rfl, by decide, wd_94⟩
theorem wd_449 : sj_in (.methodLink RX9 122 yX9_countFull) := ⟨List.mem_of_getElem? (i := 449) (by decide +kernel), by decide +kernel⟩
theorem wd_452 : sj_in (.code yX9_countFull cX9_countFull 4 (some .int)) := ⟨List.mem_of_getElem? (i := 452) (by decide +kernel), by decide +kernel⟩
theorem wd_451 : sj_in (.instanceMethod yX9_countFull) := ⟨List.mem_of_getElem? (i := 451) (by decide +kernel), by decide +kernel⟩
theorem wd_12 : sj_in (.selects RX9 yX9_countFull yX9_countFull) := ⟨List.mem_of_getElem? (i := 12) (by decide +kernel), by decide +kernel⟩
theorem kc_X9_122 : sj_cw 0 RX9 122 yX9_countFull mX9_countFull 0 := ⟨wd_449, wd_62, wd_452, wd_451, fun _ => wd_12, fun h => absurd h (by decide), ⟨by decide, by decide⟩, by decide +kernel⟩
theorem wd_557 : sj_in (.methodLink RX9 125 yX5_byteAt) := ⟨List.mem_of_getElem? (i := 557) (by decide +kernel), by decide +kernel⟩
theorem wd_560 : sj_in (.code yX5_byteAt cX5_byteAt 6 (some .int)) := ⟨List.mem_of_getElem? (i := 560) (by decide +kernel), by decide +kernel⟩
theorem wd_558 : sj_in (.instanceMethod yX5_byteAt) := ⟨List.mem_of_getElem? (i := 558) (by decide +kernel), by decide +kernel⟩
theorem wd_559 : sj_in (.selects RX5 yX5_byteAt yX5_byteAt) := ⟨List.mem_of_getElem? (i := 559) (by decide +kernel), by decide +kernel⟩
theorem kc_X9_125 : sj_cw 0 RX9 125 yX5_byteAt mX5_byteAt 1 := ⟨wd_557, wd_69, wd_560, wd_558, fun _ => wd_559, fun h => absurd h (by decide), ⟨by decide, by decide⟩, by decide +kernel⟩
theorem wd_566 : sj_in (.methodLink RX9 128 yX5_streamSet) := ⟨List.mem_of_getElem? (i := 566) (by decide +kernel), by decide +kernel⟩
theorem wd_569 : sj_in (.code yX5_streamSet cX5_streamSet 6 (some .int)) := ⟨List.mem_of_getElem? (i := 569) (by decide +kernel), by decide +kernel⟩
theorem wd_567 : sj_in (.instanceMethod yX5_streamSet) := ⟨List.mem_of_getElem? (i := 567) (by decide +kernel), by decide +kernel⟩
theorem wd_568 : sj_in (.selects RX5 yX5_streamSet yX5_streamSet) := ⟨List.mem_of_getElem? (i := 568) (by decide +kernel), by decide +kernel⟩
theorem kc_X9_128 : sj_cw 0 RX9 128 yX5_streamSet mX5_streamSet 0 := ⟨wd_566, wd_69, wd_569, wd_567, fun _ => wd_568, fun h => absurd h (by decide), ⟨by decide, by decide⟩, by decide +kernel⟩
theorem wd_171 : sj_in (.fieldLink RX9 131 "StreamJudge" "cycles" "LStreamJudge$Cycles;") := ⟨List.mem_of_getElem? (i := 171) (by decide +kernel), by decide +kernel⟩
theorem fl_X9_131 : sj_fl RX9 131 8 8 (.object "StreamJudge$Cycles") false := ⟨(RX9, TX9, 9), rfl, by decide, wd_171, by decide +kernel, rfl, rfl⟩
theorem wd_574 : sj_in (.classLink RX9 135 RX1) := ⟨List.mem_of_getElem? (i := 574) (by decide +kernel), by decide +kernel⟩
theorem kl_X9_135 : sj_in (.classLink RX9 135 RX1) := wd_574
theorem wd_576 : sj_in (.methodLinkNest RX9 137 yX1_init "StreamJudge") := ⟨List.mem_of_getElem? (i := 576) (by decide +kernel), by decide +kernel⟩
theorem wd_578 : sj_in (.code yX1_init cX1_init 1 (none)) := ⟨List.mem_of_getElem? (i := 578) (by decide +kernel), by decide +kernel⟩
theorem wd_577 : sj_in (.instanceMethod yX1_init) := ⟨List.mem_of_getElem? (i := 577) (by decide +kernel), by decide +kernel⟩
theorem kc_X9_137 : sj_cw 3 RX9 137 yX1_init mX1_init 0 := ⟨⟨_, wd_576⟩, wd_75, wd_578, wd_577, fun h => absurd h (by decide), fun _ => ⟨rfl, rfl⟩, ⟨by decide, by decide⟩, by decide +kernel⟩
theorem wd_590 : sj_in (.methodLink RX9 138 yX1_greatestThrough) := ⟨List.mem_of_getElem? (i := 590) (by decide +kernel), by decide +kernel⟩
theorem wd_593 : sj_in (.code yX1_greatestThrough cX1_greatestThrough 8 (some .int)) := ⟨List.mem_of_getElem? (i := 593) (by decide +kernel), by decide +kernel⟩
theorem wd_591 : sj_in (.instanceMethod yX1_greatestThrough) := ⟨List.mem_of_getElem? (i := 591) (by decide +kernel), by decide +kernel⟩
theorem wd_592 : sj_in (.selects RX1 yX1_greatestThrough yX1_greatestThrough) := ⟨List.mem_of_getElem? (i := 592) (by decide +kernel), by decide +kernel⟩
theorem kc_X9_138 : sj_cw 0 RX9 138 yX1_greatestThrough mX1_greatestThrough 2 := ⟨wd_590, wd_75, wd_593, wd_591, fun _ => wd_592, fun h => absurd h (by decide), ⟨by decide, by decide⟩, by decide +kernel⟩
theorem wd_616 : sj_in (.methodLink RX9 142 yX9_isIndex) := ⟨List.mem_of_getElem? (i := 616) (by decide +kernel), by decide +kernel⟩
theorem wd_618 : sj_in (.code yX9_isIndex cX9_isIndex 1 (some .boolean)) := ⟨List.mem_of_getElem? (i := 618) (by decide +kernel), by decide +kernel⟩
theorem wd_617 : sj_in (.static yX9_isIndex) := ⟨List.mem_of_getElem? (i := 617) (by decide +kernel), by decide +kernel⟩
theorem kc_X9_142 : sj_cw 1 RX9 142 yX9_isIndex mX9_isIndex 1 := ⟨wd_616, wd_62, wd_618, wd_617, fun h => absurd h (by decide), fun h => absurd h (by decide), ⟨by decide, by decide⟩, by decide +kernel⟩
theorem wd_453 : sj_in (.methodLink RX9 145 yX9_valuesNow) := ⟨List.mem_of_getElem? (i := 453) (by decide +kernel), by decide +kernel⟩
theorem wd_456 : sj_in (.code yX9_valuesNow cX9_valuesNow 1 (some (.object "StreamJudge$Values"))) := ⟨List.mem_of_getElem? (i := 456) (by decide +kernel), by decide +kernel⟩
theorem wd_455 : sj_in (.instanceMethod yX9_valuesNow) := ⟨List.mem_of_getElem? (i := 455) (by decide +kernel), by decide +kernel⟩
theorem wd_13 : sj_in (.selects RX9 yX9_valuesNow yX9_valuesNow) := ⟨List.mem_of_getElem? (i := 13) (by decide +kernel), by decide +kernel⟩
theorem kc_X9_145 : sj_cw 0 RX9 145 yX9_valuesNow mX9_valuesNow 0 := ⟨wd_453, wd_62, wd_456, wd_455, fun _ => wd_13, fun h => absurd h (by decide), ⟨by decide, by decide⟩, by decide +kernel⟩
theorem wd_619 : sj_in (.methodLink RX9 149 yX7_find) := ⟨List.mem_of_getElem? (i := 619) (by decide +kernel), by decide +kernel⟩
theorem wd_622 : sj_in (.code yX7_find cX7_find 4 (none)) := ⟨List.mem_of_getElem? (i := 622) (by decide +kernel), by decide +kernel⟩
theorem wd_620 : sj_in (.instanceMethod yX7_find) := ⟨List.mem_of_getElem? (i := 620) (by decide +kernel), by decide +kernel⟩
theorem wd_621 : sj_in (.selects RX7 yX7_find yX7_find) := ⟨List.mem_of_getElem? (i := 621) (by decide +kernel), by decide +kernel⟩
theorem kc_X9_149 : sj_cw 0 RX9 149 yX7_find mX7_find 2 := ⟨wd_619, wd_73, wd_622, wd_620, fun _ => wd_621, fun h => absurd h (by decide), ⟨by decide, by decide⟩, by decide +kernel⟩
theorem wd_623 : sj_in (.methodLink RX9 153 yX7_at) := ⟨List.mem_of_getElem? (i := 623) (by decide +kernel), by decide +kernel⟩
theorem kc_X9_153 : sj_cw 0 RX9 153 yX7_at mX7_at 2 := ⟨wd_623, wd_73, wd_552, wd_550, fun _ => wd_551, fun h => absurd h (by decide), ⟨by decide, by decide⟩, by decide +kernel⟩
theorem wd_501 : sj_in (.methodLink RX9 157 yX7_findUpToReach) := ⟨List.mem_of_getElem? (i := 501) (by decide +kernel), by decide +kernel⟩
theorem wd_504 : sj_in (.code yX7_findUpToReach cX7_findUpToReach 4 (none)) := ⟨List.mem_of_getElem? (i := 504) (by decide +kernel), by decide +kernel⟩
theorem wd_502 : sj_in (.instanceMethod yX7_findUpToReach) := ⟨List.mem_of_getElem? (i := 502) (by decide +kernel), by decide +kernel⟩
theorem wd_503 : sj_in (.selects RX7 yX7_findUpToReach yX7_findUpToReach) := ⟨List.mem_of_getElem? (i := 503) (by decide +kernel), by decide +kernel⟩
theorem kc_X9_157 : sj_cw 0 RX9 157 yX7_findUpToReach mX7_findUpToReach 1 := ⟨wd_501, wd_73, wd_504, wd_502, fun _ => wd_503, fun h => absurd h (by decide), ⟨by decide, by decide⟩, by decide +kernel⟩
theorem wd_545 : sj_in (.methodLink RX9 161 yX7_reach) := ⟨List.mem_of_getElem? (i := 545) (by decide +kernel), by decide +kernel⟩
theorem kc_X9_161 : sj_cw 0 RX9 161 yX7_reach mX7_reach 1 := ⟨wd_545, wd_73, wd_548, wd_546, fun _ => wd_547, fun h => absurd h (by decide), ⟨by decide, by decide⟩, by decide +kernel⟩
theorem wd_628 : sj_in (.methodLink RX9 164 yX7_countDifferent) := ⟨List.mem_of_getElem? (i := 628) (by decide +kernel), by decide +kernel⟩
theorem wd_631 : sj_in (.code yX7_countDifferent cX7_countDifferent 5 (some .int)) := ⟨List.mem_of_getElem? (i := 631) (by decide +kernel), by decide +kernel⟩
theorem wd_629 : sj_in (.instanceMethod yX7_countDifferent) := ⟨List.mem_of_getElem? (i := 629) (by decide +kernel), by decide +kernel⟩
theorem wd_630 : sj_in (.selects RX7 yX7_countDifferent yX7_countDifferent) := ⟨List.mem_of_getElem? (i := 630) (by decide +kernel), by decide +kernel⟩
theorem kc_X9_164 : sj_cw 0 RX9 164 yX7_countDifferent mX7_countDifferent 1 := ⟨wd_628, wd_73, wd_631, wd_629, fun _ => wd_630, fun h => absurd h (by decide), ⟨by decide, by decide⟩, by decide +kernel⟩
theorem wd_639 : sj_in (.methodLink RX9 167 yX7_sum) := ⟨List.mem_of_getElem? (i := 639) (by decide +kernel), by decide +kernel⟩
theorem wd_642 : sj_in (.code yX7_sum cX7_sum 5 (some .int)) := ⟨List.mem_of_getElem? (i := 642) (by decide +kernel), by decide +kernel⟩
theorem wd_640 : sj_in (.instanceMethod yX7_sum) := ⟨List.mem_of_getElem? (i := 640) (by decide +kernel), by decide +kernel⟩
theorem wd_641 : sj_in (.selects RX7 yX7_sum yX7_sum) := ⟨List.mem_of_getElem? (i := 641) (by decide +kernel), by decide +kernel⟩
theorem kc_X9_167 : sj_cw 0 RX9 167 yX7_sum mX7_sum 1 := ⟨wd_639, wd_73, wd_642, wd_640, fun _ => wd_641, fun h => absurd h (by decide), ⟨by decide, by decide⟩, by decide +kernel⟩
theorem wd_643 : sj_in (.methodLink RX9 170 yX7_period) := ⟨List.mem_of_getElem? (i := 643) (by decide +kernel), by decide +kernel⟩
theorem kc_X9_170 : sj_cw 0 RX9 170 yX7_period mX7_period 1 := ⟨wd_643, wd_73, wd_646, wd_644, fun _ => wd_645, fun h => absurd h (by decide), ⟨by decide, by decide⟩, by decide +kernel⟩
theorem wd_651 : sj_in (.methodLink RX9 173 yX7_lengthBeforePeriod) := ⟨List.mem_of_getElem? (i := 651) (by decide +kernel), by decide +kernel⟩
theorem wd_654 : sj_in (.code yX7_lengthBeforePeriod cX7_lengthBeforePeriod 3 (some .int)) := ⟨List.mem_of_getElem? (i := 654) (by decide +kernel), by decide +kernel⟩
theorem wd_652 : sj_in (.instanceMethod yX7_lengthBeforePeriod) := ⟨List.mem_of_getElem? (i := 652) (by decide +kernel), by decide +kernel⟩
theorem wd_653 : sj_in (.selects RX7 yX7_lengthBeforePeriod yX7_lengthBeforePeriod) := ⟨List.mem_of_getElem? (i := 653) (by decide +kernel), by decide +kernel⟩
theorem kc_X9_173 : sj_cw 0 RX9 173 yX7_lengthBeforePeriod mX7_lengthBeforePeriod 1 := ⟨wd_651, wd_73, wd_654, wd_652, fun _ => wd_653, fun h => absurd h (by decide), ⟨by decide, by decide⟩, by decide +kernel⟩
theorem wd_660 : sj_in (.methodLink RX9 176 yX7_findAll) := ⟨List.mem_of_getElem? (i := 660) (by decide +kernel), by decide +kernel⟩
theorem wd_663 : sj_in (.code yX7_findAll cX7_findAll 3 (none)) := ⟨List.mem_of_getElem? (i := 663) (by decide +kernel), by decide +kernel⟩
theorem wd_661 : sj_in (.instanceMethod yX7_findAll) := ⟨List.mem_of_getElem? (i := 661) (by decide +kernel), by decide +kernel⟩
theorem wd_662 : sj_in (.selects RX7 yX7_findAll yX7_findAll) := ⟨List.mem_of_getElem? (i := 662) (by decide +kernel), by decide +kernel⟩
theorem kc_X9_176 : sj_cw 0 RX9 176 yX7_findAll mX7_findAll 1 := ⟨wd_660, wd_73, wd_663, wd_661, fun _ => wd_662, fun h => absurd h (by decide), ⟨by decide, by decide⟩, by decide +kernel⟩
theorem wd_664 : sj_in (.methodLink RX9 179 yX7_firstParting) := ⟨List.mem_of_getElem? (i := 664) (by decide +kernel), by decide +kernel⟩
theorem kc_X9_179 : sj_cw 0 RX9 179 yX7_firstParting mX7_firstParting 2 := ⟨wd_664, wd_73, wd_667, wd_665, fun _ => wd_666, fun h => absurd h (by decide), ⟨by decide, by decide⟩, by decide +kernel⟩
theorem wd_672 : sj_in (.methodLink RX9 182 yX7_alikeSet) := ⟨List.mem_of_getElem? (i := 672) (by decide +kernel), by decide +kernel⟩
theorem wd_675 : sj_in (.code yX7_alikeSet cX7_alikeSet 5 (some .int)) := ⟨List.mem_of_getElem? (i := 675) (by decide +kernel), by decide +kernel⟩
theorem wd_673 : sj_in (.instanceMethod yX7_alikeSet) := ⟨List.mem_of_getElem? (i := 673) (by decide +kernel), by decide +kernel⟩
theorem wd_674 : sj_in (.selects RX7 yX7_alikeSet yX7_alikeSet) := ⟨List.mem_of_getElem? (i := 674) (by decide +kernel), by decide +kernel⟩
theorem kc_X9_182 : sj_cw 0 RX9 182 yX7_alikeSet mX7_alikeSet 1 := ⟨wd_672, wd_73, wd_675, wd_673, fun _ => wd_674, fun h => absurd h (by decide), ⟨by decide, by decide⟩, by decide +kernel⟩
theorem wd_681 : sj_in (.methodLink RX9 185 yX7_rank) := ⟨List.mem_of_getElem? (i := 681) (by decide +kernel), by decide +kernel⟩
theorem wd_684 : sj_in (.code yX7_rank cX7_rank 3 (some .int)) := ⟨List.mem_of_getElem? (i := 684) (by decide +kernel), by decide +kernel⟩
theorem wd_682 : sj_in (.instanceMethod yX7_rank) := ⟨List.mem_of_getElem? (i := 682) (by decide +kernel), by decide +kernel⟩
theorem wd_683 : sj_in (.selects RX7 yX7_rank yX7_rank) := ⟨List.mem_of_getElem? (i := 683) (by decide +kernel), by decide +kernel⟩
theorem kc_X9_185 : sj_cw 0 RX9 185 yX7_rank mX7_rank 2 := ⟨wd_681, wd_73, wd_684, wd_682, fun _ => wd_683, fun h => absurd h (by decide), ⟨by decide, by decide⟩, by decide +kernel⟩
theorem wd_685 : sj_in (.methodLink RX9 188 yX7_collectNeeded) := ⟨List.mem_of_getElem? (i := 685) (by decide +kernel), by decide +kernel⟩
theorem wd_688 : sj_in (.code yX7_collectNeeded cX7_collectNeeded 6 (some .int)) := ⟨List.mem_of_getElem? (i := 688) (by decide +kernel), by decide +kernel⟩
theorem wd_686 : sj_in (.instanceMethod yX7_collectNeeded) := ⟨List.mem_of_getElem? (i := 686) (by decide +kernel), by decide +kernel⟩
theorem wd_687 : sj_in (.selects RX7 yX7_collectNeeded yX7_collectNeeded) := ⟨List.mem_of_getElem? (i := 687) (by decide +kernel), by decide +kernel⟩
theorem kc_X9_188 : sj_cw 0 RX9 188 yX7_collectNeeded mX7_collectNeeded 2 := ⟨wd_685, wd_73, wd_688, wd_686, fun _ => wd_687, fun h => absurd h (by decide), ⟨by decide, by decide⟩, by decide +kernel⟩
theorem wd_458 : sj_in (.methodLink RX9 191 yX9_sharedWorkspace) := ⟨List.mem_of_getElem? (i := 458) (by decide +kernel), by decide +kernel⟩
theorem wd_461 : sj_in (.code yX9_sharedWorkspace cX9_sharedWorkspace 1 (some (.object "StreamJudge$Workspace"))) := ⟨List.mem_of_getElem? (i := 461) (by decide +kernel), by decide +kernel⟩
theorem wd_460 : sj_in (.instanceMethod yX9_sharedWorkspace) := ⟨List.mem_of_getElem? (i := 460) (by decide +kernel), by decide +kernel⟩
theorem wd_14 : sj_in (.selects RX9 yX9_sharedWorkspace yX9_sharedWorkspace) := ⟨List.mem_of_getElem? (i := 14) (by decide +kernel), by decide +kernel⟩
theorem kc_X9_191 : sj_cw 0 RX9 191 yX9_sharedWorkspace mX9_sharedWorkspace 0 := ⟨wd_458, wd_62, wd_461, wd_460, fun _ => wd_14, fun h => absurd h (by decide), ⟨by decide, by decide⟩, by decide +kernel⟩
theorem wd_704 : sj_in (.methodLink RX9 195 yX8_greatestIndex) := ⟨List.mem_of_getElem? (i := 704) (by decide +kernel), by decide +kernel⟩
theorem wd_707 : sj_in (.code yX8_greatestIndex cX8_greatestIndex 4 (some .int)) := ⟨List.mem_of_getElem? (i := 707) (by decide +kernel), by decide +kernel⟩
theorem wd_705 : sj_in (.instanceMethod yX8_greatestIndex) := ⟨List.mem_of_getElem? (i := 705) (by decide +kernel), by decide +kernel⟩
theorem wd_706 : sj_in (.selects RX8 yX8_greatestIndex yX8_greatestIndex) := ⟨List.mem_of_getElem? (i := 706) (by decide +kernel), by decide +kernel⟩
theorem kc_X9_195 : sj_cw 0 RX9 195 yX8_greatestIndex mX8_greatestIndex 1 := ⟨wd_704, wd_74, wd_707, wd_705, fun _ => wd_706, fun h => absurd h (by decide), ⟨by decide, by decide⟩, by decide +kernel⟩
theorem wd_709 : sj_in (.methodLink RX9 200 yX8_countStreams) := ⟨List.mem_of_getElem? (i := 709) (by decide +kernel), by decide +kernel⟩
theorem wd_712 : sj_in (.code yX8_countStreams cX8_countStreams 4 (some .int)) := ⟨List.mem_of_getElem? (i := 712) (by decide +kernel), by decide +kernel⟩
theorem wd_710 : sj_in (.instanceMethod yX8_countStreams) := ⟨List.mem_of_getElem? (i := 710) (by decide +kernel), by decide +kernel⟩
theorem wd_711 : sj_in (.selects RX8 yX8_countStreams yX8_countStreams) := ⟨List.mem_of_getElem? (i := 711) (by decide +kernel), by decide +kernel⟩
theorem kc_X9_200 : sj_cw 0 RX9 200 yX8_countStreams mX8_countStreams 1 := ⟨wd_709, wd_74, wd_712, wd_710, fun _ => wd_711, fun h => absurd h (by decide), ⟨by decide, by decide⟩, by decide +kernel⟩
theorem wd_718 : sj_in (.methodLink RX9 203 yX9_isImage) := ⟨List.mem_of_getElem? (i := 718) (by decide +kernel), by decide +kernel⟩
theorem wd_720 : sj_in (.code yX9_isImage cX9_isImage 1 (some .boolean)) := ⟨List.mem_of_getElem? (i := 720) (by decide +kernel), by decide +kernel⟩
theorem wd_719 : sj_in (.static yX9_isImage) := ⟨List.mem_of_getElem? (i := 719) (by decide +kernel), by decide +kernel⟩
theorem kc_X9_203 : sj_cw 1 RX9 203 yX9_isImage mX9_isImage 1 := ⟨wd_718, wd_62, wd_720, wd_719, fun h => absurd h (by decide), fun h => absurd h (by decide), ⟨by decide, by decide⟩, by decide +kernel⟩
theorem wd_721 : sj_in (.methodLink RX9 206 yX2_copyFrom) := ⟨List.mem_of_getElem? (i := 721) (by decide +kernel), by decide +kernel⟩
theorem kc_X9_206 : sj_cw 0 RX9 206 yX2_copyFrom mX2_copyFrom 1 := ⟨wd_721, wd_64, wd_310, wd_308, fun _ => wd_309, fun h => absurd h (by decide), ⟨by decide, by decide⟩, by decide +kernel⟩
theorem wd_315 : sj_in (.methodLink RX9 209 yX7_forget) := ⟨List.mem_of_getElem? (i := 315) (by decide +kernel), by decide +kernel⟩
theorem wd_318 : sj_in (.code yX7_forget cX7_forget 1 (none)) := ⟨List.mem_of_getElem? (i := 318) (by decide +kernel), by decide +kernel⟩
theorem wd_316 : sj_in (.instanceMethod yX7_forget) := ⟨List.mem_of_getElem? (i := 316) (by decide +kernel), by decide +kernel⟩
theorem wd_317 : sj_in (.selects RX7 yX7_forget yX7_forget) := ⟨List.mem_of_getElem? (i := 317) (by decide +kernel), by decide +kernel⟩
theorem kc_X9_209 : sj_cw 0 RX9 209 yX7_forget mX7_forget 0 := ⟨wd_315, wd_73, wd_318, wd_316, fun _ => wd_317, fun h => absurd h (by decide), ⟨by decide, by decide⟩, by decide +kernel⟩
theorem wd_484 : sj_in (.methodLink RX9 212 yX7_init) := ⟨List.mem_of_getElem? (i := 484) (by decide +kernel), by decide +kernel⟩
theorem wd_486 : sj_in (.code yX7_init cX7_init 3 (none)) := ⟨List.mem_of_getElem? (i := 486) (by decide +kernel), by decide +kernel⟩
theorem wd_485 : sj_in (.instanceMethod yX7_init) := ⟨List.mem_of_getElem? (i := 485) (by decide +kernel), by decide +kernel⟩
theorem kc_X9_212 : sj_cw 2 RX9 212 yX7_init mX7_init 2 := ⟨wd_484, wd_73, wd_486, wd_485, fun h => absurd h (by decide), fun _ => ⟨rfl, rfl⟩, ⟨by decide, by decide⟩, by decide +kernel⟩
theorem wd_730 : sj_in (.methodLink RX9 215 yX7_firstDifference) := ⟨List.mem_of_getElem? (i := 730) (by decide +kernel), by decide +kernel⟩
theorem wd_733 : sj_in (.code yX7_firstDifference cX7_firstDifference 4 (some .int)) := ⟨List.mem_of_getElem? (i := 733) (by decide +kernel), by decide +kernel⟩
theorem wd_731 : sj_in (.instanceMethod yX7_firstDifference) := ⟨List.mem_of_getElem? (i := 731) (by decide +kernel), by decide +kernel⟩
theorem wd_732 : sj_in (.selects RX7 yX7_firstDifference yX7_firstDifference) := ⟨List.mem_of_getElem? (i := 732) (by decide +kernel), by decide +kernel⟩
theorem kc_X9_215 : sj_cw 0 RX9 215 yX7_firstDifference mX7_firstDifference 2 := ⟨wd_730, wd_73, wd_733, wd_731, fun _ => wd_732, fun h => absurd h (by decide), ⟨by decide, by decide⟩, by decide +kernel⟩
theorem wd_302 : sj_in (.methodLink RX9 219 yX3_record) := ⟨List.mem_of_getElem? (i := 302) (by decide +kernel), by decide +kernel⟩
theorem wd_305 : sj_in (.code yX3_record cX3_record 4 (none)) := ⟨List.mem_of_getElem? (i := 305) (by decide +kernel), by decide +kernel⟩
theorem wd_303 : sj_in (.instanceMethod yX3_record) := ⟨List.mem_of_getElem? (i := 303) (by decide +kernel), by decide +kernel⟩
theorem wd_304 : sj_in (.selects RX3 yX3_record yX3_record) := ⟨List.mem_of_getElem? (i := 304) (by decide +kernel), by decide +kernel⟩
theorem kc_X9_219 : sj_cw 0 RX9 219 yX3_record mX3_record 1 := ⟨wd_302, wd_65, wd_305, wd_303, fun _ => wd_304, fun h => absurd h (by decide), ⟨by decide, by decide⟩, by decide +kernel⟩
theorem wd_169 : sj_in (.fieldLink RX9 222 "StreamJudge" "presentValues" "LStreamJudge$Values;") := ⟨List.mem_of_getElem? (i := 169) (by decide +kernel), by decide +kernel⟩
theorem fl_X9_222 : sj_fl RX9 222 8 6 (.object "StreamJudge$Values") false := ⟨(RX9, TX9, 9), rfl, by decide, wd_169, by decide +kernel, rfl, rfl⟩
theorem wd_170 : sj_in (.fieldLink RX9 226 "StreamJudge" "workspace" "LStreamJudge$Workspace;") := ⟨List.mem_of_getElem? (i := 170) (by decide +kernel), by decide +kernel⟩
theorem fl_X9_226 : sj_fl RX9 226 8 7 (.object "StreamJudge$Workspace") false := ⟨(RX9, TX9, 9), rfl, by decide, wd_170, by decide +kernel, rfl, rfl⟩
theorem wd_462 : sj_in (.classLink RX9 196 RX8) := ⟨List.mem_of_getElem? (i := 462) (by decide +kernel), by decide +kernel⟩
theorem kl_X9_196 : sj_in (.classLink RX9 196 RX8) := wd_462
theorem wd_464 : sj_in (.methodLinkNest RX9 230 yX8_init "StreamJudge") := ⟨List.mem_of_getElem? (i := 464) (by decide +kernel), by decide +kernel⟩
theorem wd_466 : sj_in (.code yX8_init cX8_init 1 (none)) := ⟨List.mem_of_getElem? (i := 466) (by decide +kernel), by decide +kernel⟩
theorem wd_465 : sj_in (.instanceMethod yX8_init) := ⟨List.mem_of_getElem? (i := 465) (by decide +kernel), by decide +kernel⟩
theorem kc_X9_230 : sj_cw 3 RX9 230 yX8_init mX8_init 0 := ⟨⟨_, wd_464⟩, wd_74, wd_466, wd_465, fun h => absurd h (by decide), fun _ => ⟨rfl, rfl⟩, ⟨by decide, by decide⟩, by decide +kernel⟩
theorem wd_739 : sj_in (.methodLink RX10 1 Lib.objectInit) := ⟨List.mem_of_getElem? (i := 739) (by decide +kernel), by decide +kernel⟩
theorem km_X10_1 : sj_in (.methodLink RX10 1 Lib.objectInit) := wd_739
theorem wd_740 : sj_in (.fieldLink RX10 7 "StreamJudgeModel" "w" "[I") := ⟨List.mem_of_getElem? (i := 740) (by decide +kernel), by decide +kernel⟩
theorem fl_X10_7 : sj_fl RX10 7 9 0 (.array .int) true := ⟨(RX10, TX10, 31), rfl, by decide, wd_740, by decide +kernel, rfl, rfl⟩
theorem wd_741 : sj_in (.fieldLink RX10 13 "StreamJudgeModel" "past" "[I") := ⟨List.mem_of_getElem? (i := 741) (by decide +kernel), by decide +kernel⟩
theorem fl_X10_13 : sj_fl RX10 13 9 1 (.array .int) true := ⟨(RX10, TX10, 31), rfl, by decide, wd_741, by decide +kernel, rfl, rfl⟩
theorem wd_743 : sj_in (.fieldLink RX10 16 "StreamJudgeModel" "images" "[I") := ⟨List.mem_of_getElem? (i := 743) (by decide +kernel), by decide +kernel⟩
theorem fl_X10_16 : sj_fl RX10 16 9 3 (.array .int) true := ⟨(RX10, TX10, 31), rfl, by decide, wd_743, by decide +kernel, rfl, rfl⟩
theorem wd_745 : sj_in (.fieldLink RX10 19 "StreamJudgeModel" "text" "[I") := ⟨List.mem_of_getElem? (i := 745) (by decide +kernel), by decide +kernel⟩
theorem fl_X10_19 : sj_fl RX10 19 9 5 (.array .int) true := ⟨(RX10, TX10, 31), rfl, by decide, wd_745, by decide +kernel, rfl, rfl⟩
theorem wd_747 : sj_in (.fieldLink RX10 22 "StreamJudgeModel" "read" "[I") := ⟨List.mem_of_getElem? (i := 747) (by decide +kernel), by decide +kernel⟩
theorem fl_X10_22 : sj_fl RX10 22 9 7 (.array .int) true := ⟨(RX10, TX10, 31), rfl, by decide, wd_747, by decide +kernel, rfl, rfl⟩
theorem wd_749 : sj_in (.fieldLink RX10 25 "StreamJudgeModel" "made" "[I") := ⟨List.mem_of_getElem? (i := 749) (by decide +kernel), by decide +kernel⟩
theorem fl_X10_25 : sj_fl RX10 25 9 9 (.array .int) true := ⟨(RX10, TX10, 31), rfl, by decide, wd_749, by decide +kernel, rfl, rfl⟩
theorem wd_750 : sj_in (.fieldLink RX10 28 "StreamJudgeModel" "old" "[I") := ⟨List.mem_of_getElem? (i := 750) (by decide +kernel), by decide +kernel⟩
theorem fl_X10_28 : sj_fl RX10 28 9 10 (.array .int) true := ⟨(RX10, TX10, 31), rfl, by decide, wd_750, by decide +kernel, rfl, rfl⟩
theorem wd_753 : sj_in (.fieldLink RX10 31 "StreamJudgeModel" "values" "[I") := ⟨List.mem_of_getElem? (i := 753) (by decide +kernel), by decide +kernel⟩
theorem fl_X10_31 : sj_fl RX10 31 9 13 (.array .int) true := ⟨(RX10, TX10, 31), rfl, by decide, wd_753, by decide +kernel, rfl, rfl⟩
theorem wd_754 : sj_in (.fieldLink RX10 34 "StreamJudgeModel" "ranks" "[I") := ⟨List.mem_of_getElem? (i := 754) (by decide +kernel), by decide +kernel⟩
theorem fl_X10_34 : sj_fl RX10 34 9 14 (.array .int) true := ⟨(RX10, TX10, 31), rfl, by decide, wd_754, by decide +kernel, rfl, rfl⟩
theorem wd_756 : sj_in (.fieldLink RX10 37 "StreamJudgeModel" "operator" "[I") := ⟨List.mem_of_getElem? (i := 756) (by decide +kernel), by decide +kernel⟩
theorem fl_X10_37 : sj_fl RX10 37 9 16 (.array .int) true := ⟨(RX10, TX10, 31), rfl, by decide, wd_756, by decide +kernel, rfl, rfl⟩
theorem wd_757 : sj_in (.fieldLink RX10 40 "StreamJudgeModel" "indexAt" "[I") := ⟨List.mem_of_getElem? (i := 757) (by decide +kernel), by decide +kernel⟩
theorem fl_X10_40 : sj_fl RX10 40 9 17 (.array .int) true := ⟨(RX10, TX10, 31), rfl, by decide, wd_757, by decide +kernel, rfl, rfl⟩
theorem wd_758 : sj_in (.fieldLink RX10 43 "StreamJudgeModel" "second" "[I") := ⟨List.mem_of_getElem? (i := 758) (by decide +kernel), by decide +kernel⟩
theorem fl_X10_43 : sj_fl RX10 43 9 18 (.array .int) true := ⟨(RX10, TX10, 31), rfl, by decide, wd_758, by decide +kernel, rfl, rfl⟩
theorem wd_759 : sj_in (.fieldLink RX10 46 "StreamJudgeModel" "first" "[I") := ⟨List.mem_of_getElem? (i := 759) (by decide +kernel), by decide +kernel⟩
theorem fl_X10_46 : sj_fl RX10 46 9 19 (.array .int) true := ⟨(RX10, TX10, 31), rfl, by decide, wd_759, by decide +kernel, rfl, rfl⟩
theorem wd_760 : sj_in (.fieldLink RX10 49 "StreamJudgeModel" "needed" "[I") := ⟨List.mem_of_getElem? (i := 760) (by decide +kernel), by decide +kernel⟩
theorem fl_X10_49 : sj_fl RX10 49 9 20 (.array .int) true := ⟨(RX10, TX10, 31), rfl, by decide, wd_760, by decide +kernel, rfl, rfl⟩
theorem wd_764 : sj_in (.fieldLink RX10 52 "StreamJudgeModel" "shifts" "[I") := ⟨List.mem_of_getElem? (i := 764) (by decide +kernel), by decide +kernel⟩
theorem fl_X10_52 : sj_fl RX10 52 9 24 (.array .int) true := ⟨(RX10, TX10, 31), rfl, by decide, wd_764, by decide +kernel, rfl, rfl⟩
theorem wd_765 : sj_in (.fieldLink RX10 55 "StreamJudgeModel" "around" "[I") := ⟨List.mem_of_getElem? (i := 765) (by decide +kernel), by decide +kernel⟩
theorem fl_X10_55 : sj_fl RX10 55 9 25 (.array .int) true := ⟨(RX10, TX10, 31), rfl, by decide, wd_765, by decide +kernel, rfl, rfl⟩
theorem wd_766 : sj_in (.fieldLink RX10 58 "StreamJudgeModel" "best" "[I") := ⟨List.mem_of_getElem? (i := 766) (by decide +kernel), by decide +kernel⟩
theorem fl_X10_58 : sj_fl RX10 58 9 26 (.array .int) true := ⟨(RX10, TX10, 31), rfl, by decide, wd_766, by decide +kernel, rfl, rfl⟩
theorem wd_767 : sj_in (.fieldLink RX10 61 "StreamJudgeModel" "isNeeded" "[Z") := ⟨List.mem_of_getElem? (i := 767) (by decide +kernel), by decide +kernel⟩
theorem fl_X10_61 : sj_fl RX10 61 9 27 (.array .boolean) true := ⟨(RX10, TX10, 31), rfl, by decide, wd_767, by decide +kernel, rfl, rfl⟩
theorem wd_768 : sj_in (.fieldLink RX10 65 "StreamJudgeModel" "toSee" "[I") := ⟨List.mem_of_getElem? (i := 768) (by decide +kernel), by decide +kernel⟩
theorem fl_X10_65 : sj_fl RX10 65 9 28 (.array .int) true := ⟨(RX10, TX10, 31), rfl, by decide, wd_768, by decide +kernel, rfl, rfl⟩
theorem wd_769 : sj_in (.fieldLink RX10 68 "StreamJudgeModel" "held" "[I") := ⟨List.mem_of_getElem? (i := 769) (by decide +kernel), by decide +kernel⟩
theorem fl_X10_68 : sj_fl RX10 68 9 29 (.array .int) true := ⟨(RX10, TX10, 31), rfl, by decide, wd_769, by decide +kernel, rfl, rfl⟩
theorem wd_770 : sj_in (.fieldLink RX10 71 "StreamJudgeModel" "there" "[I") := ⟨List.mem_of_getElem? (i := 770) (by decide +kernel), by decide +kernel⟩
theorem fl_X10_71 : sj_fl RX10 71 9 30 (.array .int) true := ⟨(RX10, TX10, 31), rfl, by decide, wd_770, by decide +kernel, rfl, rfl⟩
theorem wd_839 : sj_in (.methodLink RX10 74 yX10_isIn) := ⟨List.mem_of_getElem? (i := 839) (by decide +kernel), by decide +kernel⟩
theorem wd_841 : sj_in (.code yX10_isIn cX10_isIn 3 (some .boolean)) := ⟨List.mem_of_getElem? (i := 841) (by decide +kernel), by decide +kernel⟩
theorem wd_840 : sj_in (.static yX10_isIn) := ⟨List.mem_of_getElem? (i := 840) (by decide +kernel), by decide +kernel⟩
theorem kc_X10_74 : sj_cw 1 RX10 74 yX10_isIn mX10_isIn 3 := ⟨wd_839, wd_67, wd_841, wd_840, fun h => absurd h (by decide), fun h => absurd h (by decide), ⟨by decide, by decide⟩, by decide +kernel⟩
theorem wd_878 : sj_in (.methodLink RX10 78 yX10_bytes) := ⟨List.mem_of_getElem? (i := 878) (by decide +kernel), by decide +kernel⟩
theorem wd_881 : sj_in (.code yX10_bytes cX10_bytes 2 (some .int)) := ⟨List.mem_of_getElem? (i := 881) (by decide +kernel), by decide +kernel⟩
theorem wd_880 : sj_in (.instanceMethod yX10_bytes) := ⟨List.mem_of_getElem? (i := 880) (by decide +kernel), by decide +kernel⟩
theorem wd_27 : sj_in (.selects RX10 yX10_bytes yX10_bytes) := ⟨List.mem_of_getElem? (i := 27) (by decide +kernel), by decide +kernel⟩
theorem kc_X10_78 : sj_cw 0 RX10 78 yX10_bytes mX10_bytes 1 := ⟨wd_878, wd_67, wd_881, wd_880, fun _ => wd_27, fun h => absurd h (by decide), ⟨by decide, by decide⟩, by decide +kernel⟩
theorem wd_742 : sj_in (.fieldLink RX10 82 "StreamJudgeModel" "pastMany" "I") := ⟨List.mem_of_getElem? (i := 742) (by decide +kernel), by decide +kernel⟩
theorem fl_X10_82 : sj_fl RX10 82 9 2 .int false := ⟨(RX10, TX10, 31), rfl, by decide, wd_742, by decide +kernel, rfl, rfl⟩
theorem wd_755 : sj_in (.fieldLink RX10 86 "StreamJudgeModel" "isLaid" "Z") := ⟨List.mem_of_getElem? (i := 755) (by decide +kernel), by decide +kernel⟩
theorem fl_X10_86 : sj_fl RX10 86 9 15 .boolean false := ⟨(RX10, TX10, 31), rfl, by decide, wd_755, by decide +kernel, rfl, rfl⟩
theorem wd_746 : sj_in (.fieldLink RX10 90 "StreamJudgeModel" "length" "I") := ⟨List.mem_of_getElem? (i := 746) (by decide +kernel), by decide +kernel⟩
theorem fl_X10_90 : sj_fl RX10 90 9 6 .int false := ⟨(RX10, TX10, 31), rfl, by decide, wd_746, by decide +kernel, rfl, rfl⟩
theorem wd_850 : sj_in (.methodLink RX10 93 yX10_isDigit) := ⟨List.mem_of_getElem? (i := 850) (by decide +kernel), by decide +kernel⟩
theorem wd_852 : sj_in (.code yX10_isDigit cX10_isDigit 1 (some .boolean)) := ⟨List.mem_of_getElem? (i := 852) (by decide +kernel), by decide +kernel⟩
theorem wd_851 : sj_in (.static yX10_isDigit) := ⟨List.mem_of_getElem? (i := 851) (by decide +kernel), by decide +kernel⟩
theorem kc_X10_93 : sj_cw 1 RX10 93 yX10_isDigit mX10_isDigit 1 := ⟨wd_850, wd_67, wd_852, wd_851, fun h => absurd h (by decide), fun h => absurd h (by decide), ⟨by decide, by decide⟩, by decide +kernel⟩
theorem wd_856 : sj_in (.methodLink RX10 97 yX10_isLetter) := ⟨List.mem_of_getElem? (i := 856) (by decide +kernel), by decide +kernel⟩
theorem wd_858 : sj_in (.code yX10_isLetter cX10_isLetter 1 (some .boolean)) := ⟨List.mem_of_getElem? (i := 858) (by decide +kernel), by decide +kernel⟩
theorem wd_857 : sj_in (.static yX10_isLetter) := ⟨List.mem_of_getElem? (i := 857) (by decide +kernel), by decide +kernel⟩
theorem kc_X10_97 : sj_cw 1 RX10 97 yX10_isLetter mX10_isLetter 1 := ⟨wd_856, wd_67, wd_858, wd_857, fun h => absurd h (by decide), fun h => absurd h (by decide), ⟨by decide, by decide⟩, by decide +kernel⟩
theorem wd_748 : sj_in (.fieldLink RX10 100 "StreamJudgeModel" "readMany" "I") := ⟨List.mem_of_getElem? (i := 748) (by decide +kernel), by decide +kernel⟩
theorem fl_X10_100 : sj_fl RX10 100 9 8 .int false := ⟨(RX10, TX10, 31), rfl, by decide, wd_748, by decide +kernel, rfl, rfl⟩
theorem wd_853 : sj_in (.methodLink RX10 103 yX10_parts) := ⟨List.mem_of_getElem? (i := 853) (by decide +kernel), by decide +kernel⟩
theorem wd_855 : sj_in (.code yX10_parts cX10_parts 1 (some .int)) := ⟨List.mem_of_getElem? (i := 855) (by decide +kernel), by decide +kernel⟩
theorem wd_854 : sj_in (.static yX10_parts) := ⟨List.mem_of_getElem? (i := 854) (by decide +kernel), by decide +kernel⟩
theorem kc_X10_103 : sj_cw 1 RX10 103 yX10_parts mX10_parts 1 := ⟨wd_853, wd_67, wd_855, wd_854, fun h => absurd h (by decide), fun h => absurd h (by decide), ⟨by decide, by decide⟩, by decide +kernel⟩
theorem wd_871 : sj_in (.methodLink RX10 106 yX10_begin) := ⟨List.mem_of_getElem? (i := 871) (by decide +kernel), by decide +kernel⟩
theorem wd_873 : sj_in (.code yX10_begin cX10_begin 1 (some .int)) := ⟨List.mem_of_getElem? (i := 873) (by decide +kernel), by decide +kernel⟩
theorem wd_872 : sj_in (.static yX10_begin) := ⟨List.mem_of_getElem? (i := 872) (by decide +kernel), by decide +kernel⟩
theorem kc_X10_106 : sj_cw 1 RX10 106 yX10_begin mX10_begin 1 := ⟨wd_871, wd_67, wd_873, wd_872, fun h => absurd h (by decide), fun h => absurd h (by decide), ⟨by decide, by decide⟩, by decide +kernel⟩
theorem wd_863 : sj_in (.methodLink RX10 109 yX10_isStream) := ⟨List.mem_of_getElem? (i := 863) (by decide +kernel), by decide +kernel⟩
theorem wd_865 : sj_in (.code yX10_isStream cX10_isStream 1 (some .boolean)) := ⟨List.mem_of_getElem? (i := 865) (by decide +kernel), by decide +kernel⟩
theorem wd_864 : sj_in (.static yX10_isStream) := ⟨List.mem_of_getElem? (i := 864) (by decide +kernel), by decide +kernel⟩
theorem kc_X10_109 : sj_cw 1 RX10 109 yX10_isStream mX10_isStream 1 := ⟨wd_863, wd_67, wd_865, wd_864, fun h => absurd h (by decide), fun h => absurd h (by decide), ⟨by decide, by decide⟩, by decide +kernel⟩
theorem wd_866 : sj_in (.methodLink RX10 112 yX10_fault) := ⟨List.mem_of_getElem? (i := 866) (by decide +kernel), by decide +kernel⟩
theorem wd_849 : sj_in (.code yX10_fault cX10_fault 5 (some .int)) := ⟨List.mem_of_getElem? (i := 849) (by decide +kernel), by decide +kernel⟩
theorem wd_847 : sj_in (.instanceMethod yX10_fault) := ⟨List.mem_of_getElem? (i := 847) (by decide +kernel), by decide +kernel⟩
theorem wd_848 : sj_in (.selects RX10 yX10_fault yX10_fault) := ⟨List.mem_of_getElem? (i := 848) (by decide +kernel), by decide +kernel⟩
theorem kc_X10_112 : sj_cw 0 RX10 112 yX10_fault mX10_fault 0 := ⟨wd_866, wd_67, wd_849, wd_847, fun _ => wd_848, fun h => absurd h (by decide), ⟨by decide, by decide⟩, by decide +kernel⟩
theorem wd_867 : sj_in (.methodLink RX10 116 yX10_remember) := ⟨List.mem_of_getElem? (i := 867) (by decide +kernel), by decide +kernel⟩
theorem wd_870 : sj_in (.code yX10_remember cX10_remember 2 (none)) := ⟨List.mem_of_getElem? (i := 870) (by decide +kernel), by decide +kernel⟩
theorem wd_869 : sj_in (.instanceMethod yX10_remember) := ⟨List.mem_of_getElem? (i := 869) (by decide +kernel), by decide +kernel⟩
theorem wd_25 : sj_in (.selects RX10 yX10_remember yX10_remember) := ⟨List.mem_of_getElem? (i := 25) (by decide +kernel), by decide +kernel⟩
theorem kc_X10_116 : sj_cw 0 RX10 116 yX10_remember mX10_remember 0 := ⟨wd_867, wd_67, wd_870, wd_869, fun _ => wd_25, fun h => absurd h (by decide), ⟨by decide, by decide⟩, by decide +kernel⟩
theorem wd_874 : sj_in (.methodLink RX10 119 yX10_sizeOf) := ⟨List.mem_of_getElem? (i := 874) (by decide +kernel), by decide +kernel⟩
theorem wd_877 : sj_in (.code yX10_sizeOf cX10_sizeOf 4 (some .int)) := ⟨List.mem_of_getElem? (i := 877) (by decide +kernel), by decide +kernel⟩
theorem wd_876 : sj_in (.instanceMethod yX10_sizeOf) := ⟨List.mem_of_getElem? (i := 876) (by decide +kernel), by decide +kernel⟩
theorem wd_26 : sj_in (.selects RX10 yX10_sizeOf yX10_sizeOf) := ⟨List.mem_of_getElem? (i := 26) (by decide +kernel), by decide +kernel⟩
theorem kc_X10_119 : sj_cw 0 RX10 119 yX10_sizeOf mX10_sizeOf 1 := ⟨wd_874, wd_67, wd_877, wd_876, fun _ => wd_26, fun h => absurd h (by decide), ⟨by decide, by decide⟩, by decide +kernel⟩
theorem wd_886 : sj_in (.methodLink RX10 122 yX10_has) := ⟨List.mem_of_getElem? (i := 886) (by decide +kernel), by decide +kernel⟩
theorem wd_889 : sj_in (.code yX10_has cX10_has 2 (some .boolean)) := ⟨List.mem_of_getElem? (i := 889) (by decide +kernel), by decide +kernel⟩
theorem wd_888 : sj_in (.instanceMethod yX10_has) := ⟨List.mem_of_getElem? (i := 888) (by decide +kernel), by decide +kernel⟩
theorem wd_28 : sj_in (.selects RX10 yX10_has yX10_has) := ⟨List.mem_of_getElem? (i := 28) (by decide +kernel), by decide +kernel⟩
theorem kc_X10_122 : sj_cw 0 RX10 122 yX10_has mX10_has 1 := ⟨wd_886, wd_67, wd_889, wd_888, fun _ => wd_28, fun h => absurd h (by decide), ⟨by decide, by decide⟩, by decide +kernel⟩
theorem wd_898 : sj_in (.methodLink RX10 125 yX10_occurrences) := ⟨List.mem_of_getElem? (i := 898) (by decide +kernel), by decide +kernel⟩
theorem wd_901 : sj_in (.code yX10_occurrences cX10_occurrences 5 (some .int)) := ⟨List.mem_of_getElem? (i := 901) (by decide +kernel), by decide +kernel⟩
theorem wd_900 : sj_in (.instanceMethod yX10_occurrences) := ⟨List.mem_of_getElem? (i := 900) (by decide +kernel), by decide +kernel⟩
theorem wd_29 : sj_in (.selects RX10 yX10_occurrences yX10_occurrences) := ⟨List.mem_of_getElem? (i := 29) (by decide +kernel), by decide +kernel⟩
theorem kc_X10_125 : sj_cw 0 RX10 125 yX10_occurrences mX10_occurrences 2 := ⟨wd_898, wd_67, wd_901, wd_900, fun _ => wd_29, fun h => absurd h (by decide), ⟨by decide, by decide⟩, by decide +kernel⟩
theorem wd_752 : sj_in (.fieldLink RX10 129 "StreamJudgeModel" "madeMany" "I") := ⟨List.mem_of_getElem? (i := 752) (by decide +kernel), by decide +kernel⟩
theorem fl_X10_129 : sj_fl RX10 129 9 12 .int false := ⟨(RX10, TX10, 31), rfl, by decide, wd_752, by decide +kernel, rfl, rfl⟩
theorem wd_914 : sj_in (.methodLink RX10 132 yX10_lay) := ⟨List.mem_of_getElem? (i := 914) (by decide +kernel), by decide +kernel⟩
theorem wd_917 : sj_in (.code yX10_lay cX10_lay 2 (none)) := ⟨List.mem_of_getElem? (i := 917) (by decide +kernel), by decide +kernel⟩
theorem wd_916 : sj_in (.instanceMethod yX10_lay) := ⟨List.mem_of_getElem? (i := 916) (by decide +kernel), by decide +kernel⟩
theorem wd_32 : sj_in (.selects RX10 yX10_lay yX10_lay) := ⟨List.mem_of_getElem? (i := 32) (by decide +kernel), by decide +kernel⟩
theorem kc_X10_132 : sj_cw 0 RX10 132 yX10_lay mX10_lay 1 := ⟨wd_914, wd_67, wd_917, wd_916, fun _ => wd_32, fun h => absurd h (by decide), ⟨by decide, by decide⟩, by decide +kernel⟩
theorem wd_926 : sj_in (.methodLink RX10 136 yX10_skip) := ⟨List.mem_of_getElem? (i := 926) (by decide +kernel), by decide +kernel⟩
theorem wd_928 : sj_in (.code yX10_skip cX10_skip 4 (some .int)) := ⟨List.mem_of_getElem? (i := 928) (by decide +kernel), by decide +kernel⟩
theorem wd_927 : sj_in (.static yX10_skip) := ⟨List.mem_of_getElem? (i := 927) (by decide +kernel), by decide +kernel⟩
theorem kc_X10_136 : sj_cw 1 RX10 136 yX10_skip mX10_skip 2 := ⟨wd_926, wd_67, wd_928, wd_927, fun h => absurd h (by decide), fun h => absurd h (by decide), ⟨by decide, by decide⟩, by decide +kernel⟩
theorem wd_910 : sj_in (.methodLink RX10 140 yX10_layPart) := ⟨List.mem_of_getElem? (i := 910) (by decide +kernel), by decide +kernel⟩
theorem wd_913 : sj_in (.code yX10_layPart cX10_layPart 4 (none)) := ⟨List.mem_of_getElem? (i := 913) (by decide +kernel), by decide +kernel⟩
theorem wd_912 : sj_in (.instanceMethod yX10_layPart) := ⟨List.mem_of_getElem? (i := 912) (by decide +kernel), by decide +kernel⟩
theorem wd_31 : sj_in (.selects RX10 yX10_layPart yX10_layPart) := ⟨List.mem_of_getElem? (i := 31) (by decide +kernel), by decide +kernel⟩
theorem kc_X10_140 : sj_cw 0 RX10 140 yX10_layPart mX10_layPart 2 := ⟨wd_910, wd_67, wd_913, wd_912, fun _ => wd_31, fun h => absurd h (by decide), ⟨by decide, by decide⟩, by decide +kernel⟩
theorem wd_937 : sj_in (.methodLink RX10 144 yX10_isSamePart) := ⟨List.mem_of_getElem? (i := 937) (by decide +kernel), by decide +kernel⟩
theorem wd_940 : sj_in (.code yX10_isSamePart cX10_isSamePart 5 (some .boolean)) := ⟨List.mem_of_getElem? (i := 940) (by decide +kernel), by decide +kernel⟩
theorem wd_939 : sj_in (.instanceMethod yX10_isSamePart) := ⟨List.mem_of_getElem? (i := 939) (by decide +kernel), by decide +kernel⟩
theorem wd_37 : sj_in (.selects RX10 yX10_isSamePart yX10_isSamePart) := ⟨List.mem_of_getElem? (i := 37) (by decide +kernel), by decide +kernel⟩
theorem kc_X10_144 : sj_cw 0 RX10 144 yX10_isSamePart mX10_isSamePart 3 := ⟨wd_937, wd_67, wd_940, wd_939, fun _ => wd_37, fun h => absurd h (by decide), ⟨by decide, by decide⟩, by decide +kernel⟩
theorem wd_922 : sj_in (.methodLink RX10 147 yX10_layTail) := ⟨List.mem_of_getElem? (i := 922) (by decide +kernel), by decide +kernel⟩
theorem wd_925 : sj_in (.code yX10_layTail cX10_layTail 5 (some .boolean)) := ⟨List.mem_of_getElem? (i := 925) (by decide +kernel), by decide +kernel⟩
theorem wd_924 : sj_in (.instanceMethod yX10_layTail) := ⟨List.mem_of_getElem? (i := 924) (by decide +kernel), by decide +kernel⟩
theorem wd_34 : sj_in (.selects RX10 yX10_layTail yX10_layTail) := ⟨List.mem_of_getElem? (i := 34) (by decide +kernel), by decide +kernel⟩
theorem kc_X10_147 : sj_cw 0 RX10 147 yX10_layTail mX10_layTail 1 := ⟨wd_922, wd_67, wd_925, wd_924, fun _ => wd_34, fun h => absurd h (by decide), ⟨by decide, by decide⟩, by decide +kernel⟩
theorem wd_929 : sj_in (.methodLink RX10 150 yX10_layEvery) := ⟨List.mem_of_getElem? (i := 929) (by decide +kernel), by decide +kernel⟩
theorem wd_932 : sj_in (.code yX10_layEvery cX10_layEvery 5 (some .boolean)) := ⟨List.mem_of_getElem? (i := 932) (by decide +kernel), by decide +kernel⟩
theorem wd_931 : sj_in (.instanceMethod yX10_layEvery) := ⟨List.mem_of_getElem? (i := 931) (by decide +kernel), by decide +kernel⟩
theorem wd_35 : sj_in (.selects RX10 yX10_layEvery yX10_layEvery) := ⟨List.mem_of_getElem? (i := 35) (by decide +kernel), by decide +kernel⟩
theorem kc_X10_150 : sj_cw 0 RX10 150 yX10_layEvery mX10_layEvery 1 := ⟨wd_929, wd_67, wd_932, wd_931, fun _ => wd_35, fun h => absurd h (by decide), ⟨by decide, by decide⟩, by decide +kernel⟩
theorem wd_933 : sj_in (.methodLink RX10 153 yX10_layZip) := ⟨List.mem_of_getElem? (i := 933) (by decide +kernel), by decide +kernel⟩
theorem wd_936 : sj_in (.code yX10_layZip cX10_layZip 6 (some .boolean)) := ⟨List.mem_of_getElem? (i := 936) (by decide +kernel), by decide +kernel⟩
theorem wd_935 : sj_in (.instanceMethod yX10_layZip) := ⟨List.mem_of_getElem? (i := 935) (by decide +kernel), by decide +kernel⟩
theorem wd_36 : sj_in (.selects RX10 yX10_layZip yX10_layZip) := ⟨List.mem_of_getElem? (i := 36) (by decide +kernel), by decide +kernel⟩
theorem kc_X10_153 : sj_cw 0 RX10 153 yX10_layZip mX10_layZip 1 := ⟨wd_933, wd_67, wd_936, wd_935, fun _ => wd_36, fun h => absurd h (by decide), ⟨by decide, by decide⟩, by decide +kernel⟩
theorem wd_751 : sj_in (.fieldLink RX10 156 "StreamJudgeModel" "oldMany" "I") := ⟨List.mem_of_getElem? (i := 751) (by decide +kernel), by decide +kernel⟩
theorem fl_X10_156 : sj_fl RX10 156 9 11 .int false := ⟨(RX10, TX10, 31), rfl, by decide, wd_751, by decide +kernel, rfl, rfl⟩
theorem wd_918 : sj_in (.methodLink RX10 159 yX10_layRule) := ⟨List.mem_of_getElem? (i := 918) (by decide +kernel), by decide +kernel⟩
theorem wd_921 : sj_in (.code yX10_layRule cX10_layRule 2 (some .boolean)) := ⟨List.mem_of_getElem? (i := 921) (by decide +kernel), by decide +kernel⟩
theorem wd_920 : sj_in (.instanceMethod yX10_layRule) := ⟨List.mem_of_getElem? (i := 920) (by decide +kernel), by decide +kernel⟩
theorem wd_33 : sj_in (.selects RX10 yX10_layRule yX10_layRule) := ⟨List.mem_of_getElem? (i := 33) (by decide +kernel), by decide +kernel⟩
theorem kc_X10_159 : sj_cw 0 RX10 159 yX10_layRule mX10_layRule 1 := ⟨wd_918, wd_67, wd_921, wd_920, fun _ => wd_33, fun h => absurd h (by decide), ⟨by decide, by decide⟩, by decide +kernel⟩
theorem wd_906 : sj_in (.methodLink RX10 162 yX10_simplifies) := ⟨List.mem_of_getElem? (i := 906) (by decide +kernel), by decide +kernel⟩
theorem wd_909 : sj_in (.code yX10_simplifies cX10_simplifies 3 (some .boolean)) := ⟨List.mem_of_getElem? (i := 909) (by decide +kernel), by decide +kernel⟩
theorem wd_908 : sj_in (.instanceMethod yX10_simplifies) := ⟨List.mem_of_getElem? (i := 908) (by decide +kernel), by decide +kernel⟩
theorem wd_30 : sj_in (.selects RX10 yX10_simplifies yX10_simplifies) := ⟨List.mem_of_getElem? (i := 30) (by decide +kernel), by decide +kernel⟩
theorem kc_X10_162 : sj_cw 0 RX10 162 yX10_simplifies mX10_simplifies 0 := ⟨wd_906, wd_67, wd_909, wd_908, fun _ => wd_30, fun h => absurd h (by decide), ⟨by decide, by decide⟩, by decide +kernel⟩
theorem wd_941 : sj_in (.methodLink RX10 166 yX10_oldSize) := ⟨List.mem_of_getElem? (i := 941) (by decide +kernel), by decide +kernel⟩
theorem wd_944 : sj_in (.code yX10_oldSize cX10_oldSize 3 (some .int)) := ⟨List.mem_of_getElem? (i := 944) (by decide +kernel), by decide +kernel⟩
theorem wd_943 : sj_in (.instanceMethod yX10_oldSize) := ⟨List.mem_of_getElem? (i := 943) (by decide +kernel), by decide +kernel⟩
theorem wd_38 : sj_in (.selects RX10 yX10_oldSize yX10_oldSize) := ⟨List.mem_of_getElem? (i := 38) (by decide +kernel), by decide +kernel⟩
theorem kc_X10_166 : sj_cw 0 RX10 166 yX10_oldSize mX10_oldSize 0 := ⟨wd_941, wd_67, wd_944, wd_943, fun _ => wd_38, fun h => absurd h (by decide), ⟨by decide, by decide⟩, by decide +kernel⟩
theorem wd_762 : sj_in (.fieldLink RX10 169 "StreamJudgeModel" "place" "I") := ⟨List.mem_of_getElem? (i := 762) (by decide +kernel), by decide +kernel⟩
theorem fl_X10_169 : sj_fl RX10 169 9 22 .int false := ⟨(RX10, TX10, 31), rfl, by decide, wd_762, by decide +kernel, rfl, rfl⟩
theorem wd_763 : sj_in (.fieldLink RX10 172 "StreamJudgeModel" "index" "I") := ⟨List.mem_of_getElem? (i := 763) (by decide +kernel), by decide +kernel⟩
theorem fl_X10_172 : sj_fl RX10 172 9 23 .int false := ⟨(RX10, TX10, 31), rfl, by decide, wd_763, by decide +kernel, rfl, rfl⟩
theorem kd_X10_175 : sj_in (.constant RX10 175 (zI (1000000000))) := ⟨List.mem_of_getElem? (i := 985) (by decide +kernel), by decide +kernel⟩
theorem kd_X10_176 : sj_in (.constant RX10 176 (zI (500000000))) := ⟨List.mem_of_getElem? (i := 986) (by decide +kernel), by decide +kernel⟩
theorem kd_X10_177 : sj_in (.constant RX10 177 (zI (1000000001))) := ⟨List.mem_of_getElem? (i := 987) (by decide +kernel), by decide +kernel⟩
theorem wd_761 : sj_in (.fieldLink RX10 178 "StreamJudgeModel" "neededMany" "I") := ⟨List.mem_of_getElem? (i := 761) (by decide +kernel), by decide +kernel⟩
theorem fl_X10_178 : sj_fl RX10 178 9 21 .int false := ⟨(RX10, TX10, 31), rfl, by decide, wd_761, by decide +kernel, rfl, rfl⟩
theorem wd_981 : sj_in (.methodLink RX10 181 yX10_descend) := ⟨List.mem_of_getElem? (i := 981) (by decide +kernel), by decide +kernel⟩
theorem wd_984 : sj_in (.code yX10_descend cX10_descend 2 (some .int)) := ⟨List.mem_of_getElem? (i := 984) (by decide +kernel), by decide +kernel⟩
theorem wd_983 : sj_in (.instanceMethod yX10_descend) := ⟨List.mem_of_getElem? (i := 983) (by decide +kernel), by decide +kernel⟩
theorem wd_46 : sj_in (.selects RX10 yX10_descend yX10_descend) := ⟨List.mem_of_getElem? (i := 46) (by decide +kernel), by decide +kernel⟩
theorem kc_X10_181 : sj_cw 0 RX10 181 yX10_descend mX10_descend 0 := ⟨wd_981, wd_67, wd_984, wd_983, fun _ => wd_46, fun h => absurd h (by decide), ⟨by decide, by decide⟩, by decide +kernel⟩
theorem wd_977 : sj_in (.methodLink RX10 184 yX10_compute) := ⟨List.mem_of_getElem? (i := 977) (by decide +kernel), by decide +kernel⟩
theorem wd_980 : sj_in (.code yX10_compute cX10_compute 6 (some .int)) := ⟨List.mem_of_getElem? (i := 980) (by decide +kernel), by decide +kernel⟩
theorem wd_979 : sj_in (.instanceMethod yX10_compute) := ⟨List.mem_of_getElem? (i := 979) (by decide +kernel), by decide +kernel⟩
theorem wd_45 : sj_in (.selects RX10 yX10_compute yX10_compute) := ⟨List.mem_of_getElem? (i := 45) (by decide +kernel), by decide +kernel⟩
theorem kc_X10_184 : sj_cw 0 RX10 184 yX10_compute mX10_compute 2 := ⟨wd_977, wd_67, wd_980, wd_979, fun _ => wd_45, fun h => absurd h (by decide), ⟨by decide, by decide⟩, by decide +kernel⟩
theorem wd_973 : sj_in (.methodLink RX10 187 yX10_find) := ⟨List.mem_of_getElem? (i := 973) (by decide +kernel), by decide +kernel⟩
theorem wd_976 : sj_in (.code yX10_find cX10_find 5 (some .boolean)) := ⟨List.mem_of_getElem? (i := 976) (by decide +kernel), by decide +kernel⟩
theorem wd_975 : sj_in (.instanceMethod yX10_find) := ⟨List.mem_of_getElem? (i := 975) (by decide +kernel), by decide +kernel⟩
theorem wd_44 : sj_in (.selects RX10 yX10_find yX10_find) := ⟨List.mem_of_getElem? (i := 44) (by decide +kernel), by decide +kernel⟩
theorem kc_X10_187 : sj_cw 0 RX10 187 yX10_find mX10_find 1 := ⟨wd_973, wd_67, wd_976, wd_975, fun _ => wd_44, fun h => absurd h (by decide), ⟨by decide, by decide⟩, by decide +kernel⟩
theorem wd_992 : sj_in (.methodLink RX10 190 yX10_at) := ⟨List.mem_of_getElem? (i := 992) (by decide +kernel), by decide +kernel⟩
theorem wd_995 : sj_in (.code yX10_at cX10_at 3 (some .int)) := ⟨List.mem_of_getElem? (i := 995) (by decide +kernel), by decide +kernel⟩
theorem wd_994 : sj_in (.instanceMethod yX10_at) := ⟨List.mem_of_getElem? (i := 994) (by decide +kernel), by decide +kernel⟩
theorem wd_48 : sj_in (.selects RX10 yX10_at yX10_at) := ⟨List.mem_of_getElem? (i := 48) (by decide +kernel), by decide +kernel⟩
theorem kc_X10_190 : sj_cw 0 RX10 190 yX10_at mX10_at 2 := ⟨wd_992, wd_67, wd_995, wd_994, fun _ => wd_48, fun h => absurd h (by decide), ⟨by decide, by decide⟩, by decide +kernel⟩
theorem wd_969 : sj_in (.methodLink RX10 193 yX10_layValues) := ⟨List.mem_of_getElem? (i := 969) (by decide +kernel), by decide +kernel⟩
theorem wd_972 : sj_in (.code yX10_layValues cX10_layValues 4 (none)) := ⟨List.mem_of_getElem? (i := 972) (by decide +kernel), by decide +kernel⟩
theorem wd_971 : sj_in (.instanceMethod yX10_layValues) := ⟨List.mem_of_getElem? (i := 971) (by decide +kernel), by decide +kernel⟩
theorem wd_43 : sj_in (.selects RX10 yX10_layValues yX10_layValues) := ⟨List.mem_of_getElem? (i := 43) (by decide +kernel), by decide +kernel⟩
theorem kc_X10_193 : sj_cw 0 RX10 193 yX10_layValues mX10_layValues 0 := ⟨wd_969, wd_67, wd_972, wd_971, fun _ => wd_43, fun h => absurd h (by decide), ⟨by decide, by decide⟩, by decide +kernel⟩
theorem wd_988 : sj_in (.methodLink RX10 196 yX10_reach) := ⟨List.mem_of_getElem? (i := 988) (by decide +kernel), by decide +kernel⟩
theorem wd_991 : sj_in (.code yX10_reach cX10_reach 3 (some .int)) := ⟨List.mem_of_getElem? (i := 991) (by decide +kernel), by decide +kernel⟩
theorem wd_990 : sj_in (.instanceMethod yX10_reach) := ⟨List.mem_of_getElem? (i := 990) (by decide +kernel), by decide +kernel⟩
theorem wd_47 : sj_in (.selects RX10 yX10_reach yX10_reach) := ⟨List.mem_of_getElem? (i := 47) (by decide +kernel), by decide +kernel⟩
theorem kc_X10_196 : sj_cw 0 RX10 196 yX10_reach mX10_reach 1 := ⟨wd_988, wd_67, wd_991, wd_990, fun _ => wd_47, fun h => absurd h (by decide), ⟨by decide, by decide⟩, by decide +kernel⟩
theorem wd_953 : sj_in (.methodLink RX10 199 yX10_defined) := ⟨List.mem_of_getElem? (i := 953) (by decide +kernel), by decide +kernel⟩
theorem wd_956 : sj_in (.code yX10_defined cX10_defined 3 (some .int)) := ⟨List.mem_of_getElem? (i := 956) (by decide +kernel), by decide +kernel⟩
theorem wd_955 : sj_in (.instanceMethod yX10_defined) := ⟨List.mem_of_getElem? (i := 955) (by decide +kernel), by decide +kernel⟩
theorem wd_39 : sj_in (.selects RX10 yX10_defined yX10_defined) := ⟨List.mem_of_getElem? (i := 39) (by decide +kernel), by decide +kernel⟩
theorem kc_X10_199 : sj_cw 0 RX10 199 yX10_defined mX10_defined 0 := ⟨wd_953, wd_67, wd_956, wd_955, fun _ => wd_39, fun h => absurd h (by decide), ⟨by decide, by decide⟩, by decide +kernel⟩
theorem wd_957 : sj_in (.methodLink RX10 202 yX10_allSizes) := ⟨List.mem_of_getElem? (i := 957) (by decide +kernel), by decide +kernel⟩
theorem wd_960 : sj_in (.code yX10_allSizes cX10_allSizes 3 (some .int)) := ⟨List.mem_of_getElem? (i := 960) (by decide +kernel), by decide +kernel⟩
theorem wd_959 : sj_in (.instanceMethod yX10_allSizes) := ⟨List.mem_of_getElem? (i := 959) (by decide +kernel), by decide +kernel⟩
theorem wd_40 : sj_in (.selects RX10 yX10_allSizes yX10_allSizes) := ⟨List.mem_of_getElem? (i := 40) (by decide +kernel), by decide +kernel⟩
theorem kc_X10_202 : sj_cw 0 RX10 202 yX10_allSizes mX10_allSizes 0 := ⟨wd_957, wd_67, wd_960, wd_959, fun _ => wd_40, fun h => absurd h (by decide), ⟨by decide, by decide⟩, by decide +kernel⟩
theorem wd_961 : sj_in (.methodLink RX10 205 yX10_isPlain) := ⟨List.mem_of_getElem? (i := 961) (by decide +kernel), by decide +kernel⟩
theorem wd_964 : sj_in (.code yX10_isPlain cX10_isPlain 5 (some .boolean)) := ⟨List.mem_of_getElem? (i := 964) (by decide +kernel), by decide +kernel⟩
theorem wd_963 : sj_in (.instanceMethod yX10_isPlain) := ⟨List.mem_of_getElem? (i := 963) (by decide +kernel), by decide +kernel⟩
theorem wd_41 : sj_in (.selects RX10 yX10_isPlain yX10_isPlain) := ⟨List.mem_of_getElem? (i := 41) (by decide +kernel), by decide +kernel⟩
theorem kc_X10_205 : sj_cw 0 RX10 205 yX10_isPlain mX10_isPlain 0 := ⟨wd_961, wd_67, wd_964, wd_963, fun _ => wd_41, fun h => absurd h (by decide), ⟨by decide, by decide⟩, by decide +kernel⟩
theorem wd_965 : sj_in (.methodLink RX10 208 yX10_endless) := ⟨List.mem_of_getElem? (i := 965) (by decide +kernel), by decide +kernel⟩
theorem wd_968 : sj_in (.code yX10_endless cX10_endless 3 (some .int)) := ⟨List.mem_of_getElem? (i := 968) (by decide +kernel), by decide +kernel⟩
theorem wd_967 : sj_in (.instanceMethod yX10_endless) := ⟨List.mem_of_getElem? (i := 967) (by decide +kernel), by decide +kernel⟩
theorem wd_42 : sj_in (.selects RX10 yX10_endless yX10_endless) := ⟨List.mem_of_getElem? (i := 42) (by decide +kernel), by decide +kernel⟩
theorem kc_X10_208 : sj_cw 0 RX10 208 yX10_endless mX10_endless 0 := ⟨wd_965, wd_67, wd_968, wd_967, fun _ => wd_42, fun h => absurd h (by decide), ⟨by decide, by decide⟩, by decide +kernel⟩
theorem wd_1012 : sj_in (.methodLink RX10 211 yX10_layShifts) := ⟨List.mem_of_getElem? (i := 1012) (by decide +kernel), by decide +kernel⟩
theorem wd_1015 : sj_in (.code yX10_layShifts cX10_layShifts 6 (none)) := ⟨List.mem_of_getElem? (i := 1015) (by decide +kernel), by decide +kernel⟩
theorem wd_1014 : sj_in (.instanceMethod yX10_layShifts) := ⟨List.mem_of_getElem? (i := 1014) (by decide +kernel), by decide +kernel⟩
theorem wd_50 : sj_in (.selects RX10 yX10_layShifts yX10_layShifts) := ⟨List.mem_of_getElem? (i := 50) (by decide +kernel), by decide +kernel⟩
theorem kc_X10_211 : sj_cw 0 RX10 211 yX10_layShifts mX10_layShifts 1 := ⟨wd_1012, wd_67, wd_1015, wd_1014, fun _ => wd_50, fun h => absurd h (by decide), ⟨by decide, by decide⟩, by decide +kernel⟩
theorem kd_X10_214 : sj_in (.constant RX10 214 (zI (-1000000))) := ⟨List.mem_of_getElem? (i := 1016) (by decide +kernel), by decide +kernel⟩
theorem wd_1017 : sj_in (.methodLink RX10 215 yX10_extend) := ⟨List.mem_of_getElem? (i := 1017) (by decide +kernel), by decide +kernel⟩
theorem wd_1020 : sj_in (.code yX10_extend cX10_extend 7 (none)) := ⟨List.mem_of_getElem? (i := 1020) (by decide +kernel), by decide +kernel⟩
theorem wd_1019 : sj_in (.instanceMethod yX10_extend) := ⟨List.mem_of_getElem? (i := 1019) (by decide +kernel), by decide +kernel⟩
theorem wd_51 : sj_in (.selects RX10 yX10_extend yX10_extend) := ⟨List.mem_of_getElem? (i := 51) (by decide +kernel), by decide +kernel⟩
theorem kc_X10_215 : sj_cw 0 RX10 215 yX10_extend mX10_extend 3 := ⟨wd_1017, wd_67, wd_1020, wd_1019, fun _ => wd_51, fun h => absurd h (by decide), ⟨by decide, by decide⟩, by decide +kernel⟩
theorem wd_1008 : sj_in (.methodLink RX10 219 yX10_greatestCycle) := ⟨List.mem_of_getElem? (i := 1008) (by decide +kernel), by decide +kernel⟩
theorem wd_1011 : sj_in (.code yX10_greatestCycle cX10_greatestCycle 7 (some .int)) := ⟨List.mem_of_getElem? (i := 1011) (by decide +kernel), by decide +kernel⟩
theorem wd_1010 : sj_in (.instanceMethod yX10_greatestCycle) := ⟨List.mem_of_getElem? (i := 1010) (by decide +kernel), by decide +kernel⟩
theorem wd_49 : sj_in (.selects RX10 yX10_greatestCycle yX10_greatestCycle) := ⟨List.mem_of_getElem? (i := 49) (by decide +kernel), by decide +kernel⟩
theorem kc_X10_219 : sj_cw 0 RX10 219 yX10_greatestCycle mX10_greatestCycle 1 := ⟨wd_1008, wd_67, wd_1011, wd_1010, fun _ => wd_49, fun h => absurd h (by decide), ⟨by decide, by decide⟩, by decide +kernel⟩
theorem wd_1041 : sj_in (.methodLink RX10 222 yX10_ahead) := ⟨List.mem_of_getElem? (i := 1041) (by decide +kernel), by decide +kernel⟩
theorem wd_1044 : sj_in (.code yX10_ahead cX10_ahead 4 (some .int)) := ⟨List.mem_of_getElem? (i := 1044) (by decide +kernel), by decide +kernel⟩
theorem wd_1043 : sj_in (.instanceMethod yX10_ahead) := ⟨List.mem_of_getElem? (i := 1043) (by decide +kernel), by decide +kernel⟩
theorem wd_55 : sj_in (.selects RX10 yX10_ahead yX10_ahead) := ⟨List.mem_of_getElem? (i := 55) (by decide +kernel), by decide +kernel⟩
theorem kc_X10_222 : sj_cw 0 RX10 222 yX10_ahead mX10_ahead 2 := ⟨wd_1041, wd_67, wd_1044, wd_1043, fun _ => wd_55, fun h => absurd h (by decide), ⟨by decide, by decide⟩, by decide +kernel⟩
theorem wd_1029 : sj_in (.methodLink RX10 225 yX10_differentValues) := ⟨List.mem_of_getElem? (i := 1029) (by decide +kernel), by decide +kernel⟩
theorem wd_1032 : sj_in (.code yX10_differentValues cX10_differentValues 6 (some .int)) := ⟨List.mem_of_getElem? (i := 1032) (by decide +kernel), by decide +kernel⟩
theorem wd_1031 : sj_in (.instanceMethod yX10_differentValues) := ⟨List.mem_of_getElem? (i := 1031) (by decide +kernel), by decide +kernel⟩
theorem wd_52 : sj_in (.selects RX10 yX10_differentValues yX10_differentValues) := ⟨List.mem_of_getElem? (i := 52) (by decide +kernel), by decide +kernel⟩
theorem kc_X10_225 : sj_cw 0 RX10 225 yX10_differentValues mX10_differentValues 2 := ⟨wd_1029, wd_67, wd_1032, wd_1031, fun _ => wd_52, fun h => absurd h (by decide), ⟨by decide, by decide⟩, by decide +kernel⟩
theorem wd_1033 : sj_in (.methodLink RX10 228 yX10_sumOf) := ⟨List.mem_of_getElem? (i := 1033) (by decide +kernel), by decide +kernel⟩
theorem wd_1036 : sj_in (.code yX10_sumOf cX10_sumOf 5 (some .int)) := ⟨List.mem_of_getElem? (i := 1036) (by decide +kernel), by decide +kernel⟩
theorem wd_1035 : sj_in (.instanceMethod yX10_sumOf) := ⟨List.mem_of_getElem? (i := 1035) (by decide +kernel), by decide +kernel⟩
theorem wd_53 : sj_in (.selects RX10 yX10_sumOf yX10_sumOf) := ⟨List.mem_of_getElem? (i := 53) (by decide +kernel), by decide +kernel⟩
theorem kc_X10_228 : sj_cw 0 RX10 228 yX10_sumOf mX10_sumOf 2 := ⟨wd_1033, wd_67, wd_1036, wd_1035, fun _ => wd_53, fun h => absurd h (by decide), ⟨by decide, by decide⟩, by decide +kernel⟩
theorem wd_1037 : sj_in (.methodLink RX10 231 yX10_period) := ⟨List.mem_of_getElem? (i := 1037) (by decide +kernel), by decide +kernel⟩
theorem wd_1040 : sj_in (.code yX10_period cX10_period 4 (some .int)) := ⟨List.mem_of_getElem? (i := 1040) (by decide +kernel), by decide +kernel⟩
theorem wd_1039 : sj_in (.instanceMethod yX10_period) := ⟨List.mem_of_getElem? (i := 1039) (by decide +kernel), by decide +kernel⟩
theorem wd_54 : sj_in (.selects RX10 yX10_period yX10_period) := ⟨List.mem_of_getElem? (i := 54) (by decide +kernel), by decide +kernel⟩
theorem kc_X10_231 : sj_cw 0 RX10 231 yX10_period mX10_period 2 := ⟨wd_1037, wd_67, wd_1040, wd_1039, fun _ => wd_54, fun h => absurd h (by decide), ⟨by decide, by decide⟩, by decide +kernel⟩
theorem wd_1049 : sj_in (.methodLink RX10 235 yX10_partingOf) := ⟨List.mem_of_getElem? (i := 1049) (by decide +kernel), by decide +kernel⟩
theorem wd_1052 : sj_in (.code yX10_partingOf cX10_partingOf 4 (some .int)) := ⟨List.mem_of_getElem? (i := 1052) (by decide +kernel), by decide +kernel⟩
theorem wd_1051 : sj_in (.instanceMethod yX10_partingOf) := ⟨List.mem_of_getElem? (i := 1051) (by decide +kernel), by decide +kernel⟩
theorem wd_56 : sj_in (.selects RX10 yX10_partingOf yX10_partingOf) := ⟨List.mem_of_getElem? (i := 56) (by decide +kernel), by decide +kernel⟩
theorem kc_X10_235 : sj_cw 0 RX10 235 yX10_partingOf mX10_partingOf 2 := ⟨wd_1049, wd_67, wd_1052, wd_1051, fun _ => wd_56, fun h => absurd h (by decide), ⟨by decide, by decide⟩, by decide +kernel⟩
theorem wd_1061 : sj_in (.methodLink RX10 238 yX10_gather) := ⟨List.mem_of_getElem? (i := 1061) (by decide +kernel), by decide +kernel⟩
theorem wd_1064 : sj_in (.code yX10_gather cX10_gather 6 (some .int)) := ⟨List.mem_of_getElem? (i := 1064) (by decide +kernel), by decide +kernel⟩
theorem wd_1063 : sj_in (.instanceMethod yX10_gather) := ⟨List.mem_of_getElem? (i := 1063) (by decide +kernel), by decide +kernel⟩
theorem wd_57 : sj_in (.selects RX10 yX10_gather yX10_gather) := ⟨List.mem_of_getElem? (i := 57) (by decide +kernel), by decide +kernel⟩
theorem kc_X10_238 : sj_cw 0 RX10 238 yX10_gather mX10_gather 1 := ⟨wd_1061, wd_67, wd_1064, wd_1063, fun _ => wd_57, fun h => absurd h (by decide), ⟨by decide, by decide⟩, by decide +kernel⟩
theorem wd_1065 : sj_in (.methodLink RX10 241 yX10_highestNeeded) := ⟨List.mem_of_getElem? (i := 1065) (by decide +kernel), by decide +kernel⟩
theorem wd_1068 : sj_in (.code yX10_highestNeeded cX10_highestNeeded 4 (some .int)) := ⟨List.mem_of_getElem? (i := 1068) (by decide +kernel), by decide +kernel⟩
theorem wd_1067 : sj_in (.instanceMethod yX10_highestNeeded) := ⟨List.mem_of_getElem? (i := 1067) (by decide +kernel), by decide +kernel⟩
theorem wd_58 : sj_in (.selects RX10 yX10_highestNeeded yX10_highestNeeded) := ⟨List.mem_of_getElem? (i := 58) (by decide +kernel), by decide +kernel⟩
theorem kc_X10_241 : sj_cw 0 RX10 241 yX10_highestNeeded mX10_highestNeeded 1 := ⟨wd_1065, wd_67, wd_1068, wd_1067, fun _ => wd_58, fun h => absurd h (by decide), ⟨by decide, by decide⟩, by decide +kernel⟩
theorem wd_1069 : sj_in (.methodLink RX10 244 yX10_streamsNeeded) := ⟨List.mem_of_getElem? (i := 1069) (by decide +kernel), by decide +kernel⟩
theorem wd_1072 : sj_in (.code yX10_streamsNeeded cX10_streamsNeeded 6 (some .int)) := ⟨List.mem_of_getElem? (i := 1072) (by decide +kernel), by decide +kernel⟩
theorem wd_1071 : sj_in (.instanceMethod yX10_streamsNeeded) := ⟨List.mem_of_getElem? (i := 1071) (by decide +kernel), by decide +kernel⟩
theorem wd_59 : sj_in (.selects RX10 yX10_streamsNeeded yX10_streamsNeeded) := ⟨List.mem_of_getElem? (i := 59) (by decide +kernel), by decide +kernel⟩
theorem kc_X10_244 : sj_cw 0 RX10 244 yX10_streamsNeeded mX10_streamsNeeded 1 := ⟨wd_1069, wd_67, wd_1072, wd_1071, fun _ => wd_59, fun h => absurd h (by decide), ⟨by decide, by decide⟩, by decide +kernel⟩
theorem wd_744 : sj_in (.fieldLink RX10 247 "StreamJudgeModel" "filled" "I") := ⟨List.mem_of_getElem? (i := 744) (by decide +kernel), by decide +kernel⟩
theorem fl_X10_247 : sj_fl RX10 247 9 4 .int false := ⟨(RX10, TX10, 31), rfl, by decide, wd_744, by decide +kernel, rfl, rfl⟩
theorem wd_1077 : sj_in (.methodLink RX10 250 yX10_isImage) := ⟨List.mem_of_getElem? (i := 1077) (by decide +kernel), by decide +kernel⟩
theorem wd_1079 : sj_in (.code yX10_isImage cX10_isImage 1 (some .boolean)) := ⟨List.mem_of_getElem? (i := 1079) (by decide +kernel), by decide +kernel⟩
theorem wd_1078 : sj_in (.static yX10_isImage) := ⟨List.mem_of_getElem? (i := 1078) (by decide +kernel), by decide +kernel⟩
theorem kc_X10_250 : sj_cw 1 RX10 250 yX10_isImage mX10_isImage 1 := ⟨wd_1077, wd_67, wd_1079, wd_1078, fun h => absurd h (by decide), fun h => absurd h (by decide), ⟨by decide, by decide⟩, by decide +kernel⟩
theorem wd_1084 : sj_in (.methodLink RX10 253 yX10_isKept) := ⟨List.mem_of_getElem? (i := 1084) (by decide +kernel), by decide +kernel⟩
theorem wd_1087 : sj_in (.code yX10_isKept cX10_isKept 2 (some .boolean)) := ⟨List.mem_of_getElem? (i := 1087) (by decide +kernel), by decide +kernel⟩
theorem wd_1086 : sj_in (.instanceMethod yX10_isKept) := ⟨List.mem_of_getElem? (i := 1086) (by decide +kernel), by decide +kernel⟩
theorem wd_60 : sj_in (.selects RX10 yX10_isKept yX10_isKept) := ⟨List.mem_of_getElem? (i := 60) (by decide +kernel), by decide +kernel⟩
theorem kc_X10_253 : sj_cw 0 RX10 253 yX10_isKept mX10_isKept 1 := ⟨wd_1084, wd_67, wd_1087, wd_1086, fun _ => wd_60, fun h => absurd h (by decide), ⟨by decide, by decide⟩, by decide +kernel⟩
theorem kd_J6_265 : sj_in (.constant RJ6 265 (zI (1431655765))) := ⟨List.mem_of_getElem? (i := 636) (by decide +kernel), by decide +kernel⟩
theorem kd_J6_266 : sj_in (.constant RJ6 266 (zI (858993459))) := ⟨List.mem_of_getElem? (i := 637) (by decide +kernel), by decide +kernel⟩
theorem kd_J6_267 : sj_in (.constant RJ6 267 (zI (252645135))) := ⟨List.mem_of_getElem? (i := 638) (by decide +kernel), by decide +kernel⟩
theorem wd_251 : sj_in (.methodLink RJ7 316 ⟨"[I", "clone", "()Ljava/lang/Object;"⟩) := ⟨List.mem_of_getElem? (i := 251) (by decide +kernel), by decide +kernel⟩
theorem km_J7_316 : sj_in (.methodLink RJ7 316 ⟨"[I", "clone", "()Ljava/lang/Object;"⟩) := wd_251
theorem wd_257 : sj_in (.classLink RJ7 317 "[I") := ⟨List.mem_of_getElem? (i := 257) (by decide +kernel), by decide +kernel⟩
theorem kl_J7_317 : sj_in (.classLink RJ7 317 "[I") := wd_257
theorem wd_258 : sj_in (.methodLink RJ7 304 yJ9_min_7cf53) := ⟨List.mem_of_getElem? (i := 258) (by decide +kernel), by decide +kernel⟩
theorem km_J7_304 : sj_in (.methodLink RJ7 304 yJ9_min_7cf53) := wd_258
theorem wd_261 : sj_in (.methodLink RJ7 150 arraycopyName) := ⟨List.mem_of_getElem? (i := 261) (by decide +kernel), by decide +kernel⟩
theorem km_J7_150 : sj_in (.methodLink RJ7 150 arraycopyName) := wd_261
theorem wd_77 : sj_in (.classLink RL 7 RX9) := ⟨List.mem_of_getElem? (i := 77) (by decide +kernel), by decide +kernel⟩
theorem kl_L_7 : sj_in (.classLink RL 7 RX9) := wd_77
theorem wd_79 : sj_in (.methodLink RL 9 yX9_init) := ⟨List.mem_of_getElem? (i := 79) (by decide +kernel), by decide +kernel⟩
theorem wd_81 : sj_in (.code yX9_init cX9_init 1 (none)) := ⟨List.mem_of_getElem? (i := 81) (by decide +kernel), by decide +kernel⟩
theorem wd_80 : sj_in (.instanceMethod yX9_init) := ⟨List.mem_of_getElem? (i := 80) (by decide +kernel), by decide +kernel⟩
theorem kc_L_9 : sj_cw 2 RL 9 yX9_init mX9_init 0 := ⟨wd_79, wd_62, wd_81, wd_80, fun h => absurd h (by decide), fun _ => ⟨rfl, rfl⟩, ⟨by decide, by decide⟩, by decide +kernel⟩
theorem wd_734 : sj_in (.classLink RL 10 RX10) := ⟨List.mem_of_getElem? (i := 734) (by decide +kernel), by decide +kernel⟩
theorem kl_L_10 : sj_in (.classLink RL 10 RX10) := wd_734
theorem wd_736 : sj_in (.methodLink RL 12 yX10_init) := ⟨List.mem_of_getElem? (i := 736) (by decide +kernel), by decide +kernel⟩
theorem wd_738 : sj_in (.code yX10_init cX10_init 1 (none)) := ⟨List.mem_of_getElem? (i := 738) (by decide +kernel), by decide +kernel⟩
theorem wd_737 : sj_in (.instanceMethod yX10_init) := ⟨List.mem_of_getElem? (i := 737) (by decide +kernel), by decide +kernel⟩
theorem kc_L_12 : sj_cw 2 RL 12 yX10_init mX10_init 0 := ⟨wd_736, wd_67, wd_738, wd_737, fun h => absurd h (by decide), fun _ => ⟨rfl, rfl⟩, ⟨by decide, by decide⟩, by decide +kernel⟩
theorem wd_191 : sj_in (.methodLink RL 13 yX9_write) := ⟨List.mem_of_getElem? (i := 191) (by decide +kernel), by decide +kernel⟩
theorem wd_194 : sj_in (.code yX9_write cX9_write 2 (some .int)) := ⟨List.mem_of_getElem? (i := 194) (by decide +kernel), by decide +kernel⟩
theorem wd_192 : sj_in (.instanceMethod yX9_write) := ⟨List.mem_of_getElem? (i := 192) (by decide +kernel), by decide +kernel⟩
theorem wd_193 : sj_in (.selects RX9 yX9_write yX9_write) := ⟨List.mem_of_getElem? (i := 193) (by decide +kernel), by decide +kernel⟩
theorem kc_L_13 : sj_cw 0 RL 13 yX9_write mX9_write 1 := ⟨wd_191, wd_62, wd_194, wd_192, fun _ => wd_193, fun h => absurd h (by decide), ⟨by decide, by decide⟩, by decide +kernel⟩
theorem wd_835 : sj_in (.methodLink RL 17 yX10_write) := ⟨List.mem_of_getElem? (i := 835) (by decide +kernel), by decide +kernel⟩
theorem wd_838 : sj_in (.code yX10_write cX10_write 2 (some .int)) := ⟨List.mem_of_getElem? (i := 838) (by decide +kernel), by decide +kernel⟩
theorem wd_836 : sj_in (.instanceMethod yX10_write) := ⟨List.mem_of_getElem? (i := 836) (by decide +kernel), by decide +kernel⟩
theorem wd_837 : sj_in (.selects RX10 yX10_write yX10_write) := ⟨List.mem_of_getElem? (i := 837) (by decide +kernel), by decide +kernel⟩
theorem kc_L_17 : sj_cw 0 RL 17 yX10_write mX10_write 1 := ⟨wd_835, wd_67, wd_838, wd_836, fun _ => wd_837, fun h => absurd h (by decide), ⟨by decide, by decide⟩, by decide +kernel⟩
theorem wd_199 : sj_in (.methodLink RL 18 yX9_wipe) := ⟨List.mem_of_getElem? (i := 199) (by decide +kernel), by decide +kernel⟩
theorem wd_202 : sj_in (.code yX9_wipe cX9_wipe 1 (some .int)) := ⟨List.mem_of_getElem? (i := 202) (by decide +kernel), by decide +kernel⟩
theorem wd_200 : sj_in (.instanceMethod yX9_wipe) := ⟨List.mem_of_getElem? (i := 200) (by decide +kernel), by decide +kernel⟩
theorem wd_201 : sj_in (.selects RX9 yX9_wipe yX9_wipe) := ⟨List.mem_of_getElem? (i := 201) (by decide +kernel), by decide +kernel⟩
theorem kc_L_18 : sj_cw 0 RL 18 yX9_wipe mX9_wipe 0 := ⟨wd_199, wd_62, wd_202, wd_200, fun _ => wd_201, fun h => absurd h (by decide), ⟨by decide, by decide⟩, by decide +kernel⟩
theorem wd_842 : sj_in (.methodLink RL 22 yX10_wipe) := ⟨List.mem_of_getElem? (i := 842) (by decide +kernel), by decide +kernel⟩
theorem wd_845 : sj_in (.code yX10_wipe cX10_wipe 2 (some .int)) := ⟨List.mem_of_getElem? (i := 845) (by decide +kernel), by decide +kernel⟩
theorem wd_843 : sj_in (.instanceMethod yX10_wipe) := ⟨List.mem_of_getElem? (i := 843) (by decide +kernel), by decide +kernel⟩
theorem wd_844 : sj_in (.selects RX10 yX10_wipe yX10_wipe) := ⟨List.mem_of_getElem? (i := 844) (by decide +kernel), by decide +kernel⟩
theorem kc_L_22 : sj_cw 0 RL 22 yX10_wipe mX10_wipe 0 := ⟨wd_842, wd_67, wd_845, wd_843, fun _ => wd_844, fun h => absurd h (by decide), ⟨by decide, by decide⟩, by decide +kernel⟩
theorem wd_207 : sj_in (.methodLink RL 23 yX9_fault) := ⟨List.mem_of_getElem? (i := 207) (by decide +kernel), by decide +kernel⟩
theorem wd_210 : sj_in (.code yX9_fault cX9_fault 1 (some .int)) := ⟨List.mem_of_getElem? (i := 210) (by decide +kernel), by decide +kernel⟩
theorem wd_208 : sj_in (.instanceMethod yX9_fault) := ⟨List.mem_of_getElem? (i := 208) (by decide +kernel), by decide +kernel⟩
theorem wd_209 : sj_in (.selects RX9 yX9_fault yX9_fault) := ⟨List.mem_of_getElem? (i := 209) (by decide +kernel), by decide +kernel⟩
theorem kc_L_23 : sj_cw 0 RL 23 yX9_fault mX9_fault 0 := ⟨wd_207, wd_62, wd_210, wd_208, fun _ => wd_209, fun h => absurd h (by decide), ⟨by decide, by decide⟩, by decide +kernel⟩
theorem wd_846 : sj_in (.methodLink RL 26 yX10_fault) := ⟨List.mem_of_getElem? (i := 846) (by decide +kernel), by decide +kernel⟩
theorem kc_L_26 : sj_cw 0 RL 26 yX10_fault mX10_fault 0 := ⟨wd_846, wd_67, wd_849, wd_847, fun _ => wd_848, fun h => absurd h (by decide), ⟨by decide, by decide⟩, by decide +kernel⟩
theorem wd_231 : sj_in (.methodLink RL 27 yX9_define) := ⟨List.mem_of_getElem? (i := 231) (by decide +kernel), by decide +kernel⟩
theorem wd_234 : sj_in (.code yX9_define cX9_define 3 (some .int)) := ⟨List.mem_of_getElem? (i := 234) (by decide +kernel), by decide +kernel⟩
theorem wd_232 : sj_in (.instanceMethod yX9_define) := ⟨List.mem_of_getElem? (i := 232) (by decide +kernel), by decide +kernel⟩
theorem wd_233 : sj_in (.selects RX9 yX9_define yX9_define) := ⟨List.mem_of_getElem? (i := 233) (by decide +kernel), by decide +kernel⟩
theorem kc_L_27 : sj_cw 0 RL 27 yX9_define mX9_define 1 := ⟨wd_231, wd_62, wd_234, wd_232, fun _ => wd_233, fun h => absurd h (by decide), ⟨by decide, by decide⟩, by decide +kernel⟩
theorem wd_859 : sj_in (.methodLink RL 30 yX10_define) := ⟨List.mem_of_getElem? (i := 859) (by decide +kernel), by decide +kernel⟩
theorem wd_862 : sj_in (.code yX10_define cX10_define 3 (some .int)) := ⟨List.mem_of_getElem? (i := 862) (by decide +kernel), by decide +kernel⟩
theorem wd_860 : sj_in (.instanceMethod yX10_define) := ⟨List.mem_of_getElem? (i := 860) (by decide +kernel), by decide +kernel⟩
theorem wd_861 : sj_in (.selects RX10 yX10_define yX10_define) := ⟨List.mem_of_getElem? (i := 861) (by decide +kernel), by decide +kernel⟩
theorem kc_L_30 : sj_cw 0 RL 30 yX10_define mX10_define 1 := ⟨wd_859, wd_67, wd_862, wd_860, fun _ => wd_861, fun h => absurd h (by decide), ⟨by decide, by decide⟩, by decide +kernel⟩
theorem wd_322 : sj_in (.methodLink RL 31 yX9_undefine) := ⟨List.mem_of_getElem? (i := 322) (by decide +kernel), by decide +kernel⟩
theorem wd_325 : sj_in (.code yX9_undefine cX9_undefine 3 (some .int)) := ⟨List.mem_of_getElem? (i := 325) (by decide +kernel), by decide +kernel⟩
theorem wd_323 : sj_in (.instanceMethod yX9_undefine) := ⟨List.mem_of_getElem? (i := 323) (by decide +kernel), by decide +kernel⟩
theorem wd_324 : sj_in (.selects RX9 yX9_undefine yX9_undefine) := ⟨List.mem_of_getElem? (i := 324) (by decide +kernel), by decide +kernel⟩
theorem kc_L_31 : sj_cw 0 RL 31 yX9_undefine mX9_undefine 1 := ⟨wd_322, wd_62, wd_325, wd_323, fun _ => wd_324, fun h => absurd h (by decide), ⟨by decide, by decide⟩, by decide +kernel⟩
theorem wd_882 : sj_in (.methodLink RL 34 yX10_undefine) := ⟨List.mem_of_getElem? (i := 882) (by decide +kernel), by decide +kernel⟩
theorem wd_885 : sj_in (.code yX10_undefine cX10_undefine 3 (some .int)) := ⟨List.mem_of_getElem? (i := 885) (by decide +kernel), by decide +kernel⟩
theorem wd_883 : sj_in (.instanceMethod yX10_undefine) := ⟨List.mem_of_getElem? (i := 883) (by decide +kernel), by decide +kernel⟩
theorem wd_884 : sj_in (.selects RX10 yX10_undefine yX10_undefine) := ⟨List.mem_of_getElem? (i := 884) (by decide +kernel), by decide +kernel⟩
theorem kc_L_34 : sj_cw 0 RL 34 yX10_undefine mX10_undefine 1 := ⟨wd_882, wd_67, wd_885, wd_883, fun _ => wd_884, fun h => absurd h (by decide), ⟨by decide, by decide⟩, by decide +kernel⟩
theorem wd_326 : sj_in (.methodLink RL 35 yX9_setModulus) := ⟨List.mem_of_getElem? (i := 326) (by decide +kernel), by decide +kernel⟩
theorem wd_329 : sj_in (.code yX9_setModulus cX9_setModulus 3 (some .int)) := ⟨List.mem_of_getElem? (i := 329) (by decide +kernel), by decide +kernel⟩
theorem wd_327 : sj_in (.instanceMethod yX9_setModulus) := ⟨List.mem_of_getElem? (i := 327) (by decide +kernel), by decide +kernel⟩
theorem wd_328 : sj_in (.selects RX9 yX9_setModulus yX9_setModulus) := ⟨List.mem_of_getElem? (i := 328) (by decide +kernel), by decide +kernel⟩
theorem kc_L_35 : sj_cw 0 RL 35 yX9_setModulus mX9_setModulus 1 := ⟨wd_326, wd_62, wd_329, wd_327, fun _ => wd_328, fun h => absurd h (by decide), ⟨by decide, by decide⟩, by decide +kernel⟩
theorem wd_890 : sj_in (.methodLink RL 38 yX10_setModulus) := ⟨List.mem_of_getElem? (i := 890) (by decide +kernel), by decide +kernel⟩
theorem wd_893 : sj_in (.code yX10_setModulus cX10_setModulus 3 (some .int)) := ⟨List.mem_of_getElem? (i := 893) (by decide +kernel), by decide +kernel⟩
theorem wd_891 : sj_in (.instanceMethod yX10_setModulus) := ⟨List.mem_of_getElem? (i := 891) (by decide +kernel), by decide +kernel⟩
theorem wd_892 : sj_in (.selects RX10 yX10_setModulus yX10_setModulus) := ⟨List.mem_of_getElem? (i := 892) (by decide +kernel), by decide +kernel⟩
theorem kc_L_38 : sj_cw 0 RL 38 yX10_setModulus mX10_setModulus 1 := ⟨wd_890, wd_67, wd_893, wd_891, fun _ => wd_892, fun h => absurd h (by decide), ⟨by decide, by decide⟩, by decide +kernel⟩
theorem wd_330 : sj_in (.methodLink RL 39 yX9_insert) := ⟨List.mem_of_getElem? (i := 330) (by decide +kernel), by decide +kernel⟩
theorem wd_333 : sj_in (.code yX9_insert cX9_insert 6 (some .int)) := ⟨List.mem_of_getElem? (i := 333) (by decide +kernel), by decide +kernel⟩
theorem wd_331 : sj_in (.instanceMethod yX9_insert) := ⟨List.mem_of_getElem? (i := 331) (by decide +kernel), by decide +kernel⟩
theorem wd_332 : sj_in (.selects RX9 yX9_insert yX9_insert) := ⟨List.mem_of_getElem? (i := 332) (by decide +kernel), by decide +kernel⟩
theorem kc_L_39 : sj_cw 0 RL 39 yX9_insert mX9_insert 2 := ⟨wd_330, wd_62, wd_333, wd_331, fun _ => wd_332, fun h => absurd h (by decide), ⟨by decide, by decide⟩, by decide +kernel⟩
theorem wd_894 : sj_in (.methodLink RL 43 yX10_insert) := ⟨List.mem_of_getElem? (i := 894) (by decide +kernel), by decide +kernel⟩
theorem wd_897 : sj_in (.code yX10_insert cX10_insert 7 (some .int)) := ⟨List.mem_of_getElem? (i := 897) (by decide +kernel), by decide +kernel⟩
theorem wd_895 : sj_in (.instanceMethod yX10_insert) := ⟨List.mem_of_getElem? (i := 895) (by decide +kernel), by decide +kernel⟩
theorem wd_896 : sj_in (.selects RX10 yX10_insert yX10_insert) := ⟨List.mem_of_getElem? (i := 896) (by decide +kernel), by decide +kernel⟩
theorem kc_L_43 : sj_cw 0 RL 43 yX10_insert mX10_insert 2 := ⟨wd_894, wd_67, wd_897, wd_895, fun _ => wd_896, fun h => absurd h (by decide), ⟨by decide, by decide⟩, by decide +kernel⟩
theorem wd_350 : sj_in (.methodLink RL 44 yX9_simplify) := ⟨List.mem_of_getElem? (i := 350) (by decide +kernel), by decide +kernel⟩
theorem wd_353 : sj_in (.code yX9_simplify cX9_simplify 4 (some .int)) := ⟨List.mem_of_getElem? (i := 353) (by decide +kernel), by decide +kernel⟩
theorem wd_351 : sj_in (.instanceMethod yX9_simplify) := ⟨List.mem_of_getElem? (i := 351) (by decide +kernel), by decide +kernel⟩
theorem wd_352 : sj_in (.selects RX9 yX9_simplify yX9_simplify) := ⟨List.mem_of_getElem? (i := 352) (by decide +kernel), by decide +kernel⟩
theorem kc_L_44 : sj_cw 0 RL 44 yX9_simplify mX9_simplify 1 := ⟨wd_350, wd_62, wd_353, wd_351, fun _ => wd_352, fun h => absurd h (by decide), ⟨by decide, by decide⟩, by decide +kernel⟩
theorem wd_902 : sj_in (.methodLink RL 47 yX10_simplify) := ⟨List.mem_of_getElem? (i := 902) (by decide +kernel), by decide +kernel⟩
theorem wd_905 : sj_in (.code yX10_simplify cX10_simplify 4 (some .int)) := ⟨List.mem_of_getElem? (i := 905) (by decide +kernel), by decide +kernel⟩
theorem wd_903 : sj_in (.instanceMethod yX10_simplify) := ⟨List.mem_of_getElem? (i := 903) (by decide +kernel), by decide +kernel⟩
theorem wd_904 : sj_in (.selects RX10 yX10_simplify yX10_simplify) := ⟨List.mem_of_getElem? (i := 904) (by decide +kernel), by decide +kernel⟩
theorem kc_L_47 : sj_cw 0 RL 47 yX10_simplify mX10_simplify 1 := ⟨wd_902, wd_67, wd_905, wd_903, fun _ => wd_904, fun h => absurd h (by decide), ⟨by decide, by decide⟩, by decide +kernel⟩
theorem wd_418 : sj_in (.methodLink RL 48 yX9_undo) := ⟨List.mem_of_getElem? (i := 418) (by decide +kernel), by decide +kernel⟩
theorem wd_421 : sj_in (.code yX9_undo cX9_undo 1 (some .int)) := ⟨List.mem_of_getElem? (i := 421) (by decide +kernel), by decide +kernel⟩
theorem wd_419 : sj_in (.instanceMethod yX9_undo) := ⟨List.mem_of_getElem? (i := 419) (by decide +kernel), by decide +kernel⟩
theorem wd_420 : sj_in (.selects RX9 yX9_undo yX9_undo) := ⟨List.mem_of_getElem? (i := 420) (by decide +kernel), by decide +kernel⟩
theorem kc_L_48 : sj_cw 0 RL 48 yX9_undo mX9_undo 0 := ⟨wd_418, wd_62, wd_421, wd_419, fun _ => wd_420, fun h => absurd h (by decide), ⟨by decide, by decide⟩, by decide +kernel⟩
theorem wd_945 : sj_in (.methodLink RL 51 yX10_undo) := ⟨List.mem_of_getElem? (i := 945) (by decide +kernel), by decide +kernel⟩
theorem wd_948 : sj_in (.code yX10_undo cX10_undo 2 (some .int)) := ⟨List.mem_of_getElem? (i := 948) (by decide +kernel), by decide +kernel⟩
theorem wd_946 : sj_in (.instanceMethod yX10_undo) := ⟨List.mem_of_getElem? (i := 946) (by decide +kernel), by decide +kernel⟩
theorem wd_947 : sj_in (.selects RX10 yX10_undo yX10_undo) := ⟨List.mem_of_getElem? (i := 947) (by decide +kernel), by decide +kernel⟩
theorem kc_L_51 : sj_cw 0 RL 51 yX10_undo mX10_undo 0 := ⟨wd_945, wd_67, wd_948, wd_946, fun _ => wd_947, fun h => absurd h (by decide), ⟨by decide, by decide⟩, by decide +kernel⟩
theorem wd_426 : sj_in (.methodLink RL 52 yX9_told) := ⟨List.mem_of_getElem? (i := 426) (by decide +kernel), by decide +kernel⟩
theorem wd_429 : sj_in (.code yX9_told cX9_told 2 (some .int)) := ⟨List.mem_of_getElem? (i := 429) (by decide +kernel), by decide +kernel⟩
theorem wd_427 : sj_in (.instanceMethod yX9_told) := ⟨List.mem_of_getElem? (i := 427) (by decide +kernel), by decide +kernel⟩
theorem wd_428 : sj_in (.selects RX9 yX9_told yX9_told) := ⟨List.mem_of_getElem? (i := 428) (by decide +kernel), by decide +kernel⟩
theorem kc_L_52 : sj_cw 0 RL 52 yX9_told mX9_told 1 := ⟨wd_426, wd_62, wd_429, wd_427, fun _ => wd_428, fun h => absurd h (by decide), ⟨by decide, by decide⟩, by decide +kernel⟩
theorem wd_949 : sj_in (.methodLink RL 55 yX10_told) := ⟨List.mem_of_getElem? (i := 949) (by decide +kernel), by decide +kernel⟩
theorem wd_952 : sj_in (.code yX10_told cX10_told 2 (some .int)) := ⟨List.mem_of_getElem? (i := 952) (by decide +kernel), by decide +kernel⟩
theorem wd_950 : sj_in (.instanceMethod yX10_told) := ⟨List.mem_of_getElem? (i := 950) (by decide +kernel), by decide +kernel⟩
theorem wd_951 : sj_in (.selects RX10 yX10_told yX10_told) := ⟨List.mem_of_getElem? (i := 951) (by decide +kernel), by decide +kernel⟩
theorem kc_L_55 : sj_cw 0 RL 55 yX10_told mX10_told 1 := ⟨wd_949, wd_67, wd_952, wd_950, fun _ => wd_951, fun h => absurd h (by decide), ⟨by decide, by decide⟩, by decide +kernel⟩
theorem wd_553 : sj_in (.methodLink RL 56 yX9_listing) := ⟨List.mem_of_getElem? (i := 553) (by decide +kernel), by decide +kernel⟩
theorem wd_556 : sj_in (.code yX9_listing cX9_listing 4 (some .int)) := ⟨List.mem_of_getElem? (i := 556) (by decide +kernel), by decide +kernel⟩
theorem wd_554 : sj_in (.instanceMethod yX9_listing) := ⟨List.mem_of_getElem? (i := 554) (by decide +kernel), by decide +kernel⟩
theorem wd_555 : sj_in (.selects RX9 yX9_listing yX9_listing) := ⟨List.mem_of_getElem? (i := 555) (by decide +kernel), by decide +kernel⟩
theorem kc_L_56 : sj_cw 0 RL 56 yX9_listing mX9_listing 2 := ⟨wd_553, wd_62, wd_556, wd_554, fun _ => wd_555, fun h => absurd h (by decide), ⟨by decide, by decide⟩, by decide +kernel⟩
theorem wd_996 : sj_in (.methodLink RL 59 yX10_listing) := ⟨List.mem_of_getElem? (i := 996) (by decide +kernel), by decide +kernel⟩
theorem wd_999 : sj_in (.code yX10_listing cX10_listing 3 (some .int)) := ⟨List.mem_of_getElem? (i := 999) (by decide +kernel), by decide +kernel⟩
theorem wd_997 : sj_in (.instanceMethod yX10_listing) := ⟨List.mem_of_getElem? (i := 997) (by decide +kernel), by decide +kernel⟩
theorem wd_998 : sj_in (.selects RX10 yX10_listing yX10_listing) := ⟨List.mem_of_getElem? (i := 998) (by decide +kernel), by decide +kernel⟩
theorem kc_L_59 : sj_cw 0 RL 59 yX10_listing mX10_listing 2 := ⟨wd_996, wd_67, wd_999, wd_997, fun _ => wd_998, fun h => absurd h (by decide), ⟨by decide, by decide⟩, by decide +kernel⟩
theorem wd_562 : sj_in (.methodLink RL 60 yX9_uses) := ⟨List.mem_of_getElem? (i := 562) (by decide +kernel), by decide +kernel⟩
theorem wd_565 : sj_in (.code yX9_uses cX9_uses 3 (some .int)) := ⟨List.mem_of_getElem? (i := 565) (by decide +kernel), by decide +kernel⟩
theorem wd_563 : sj_in (.instanceMethod yX9_uses) := ⟨List.mem_of_getElem? (i := 563) (by decide +kernel), by decide +kernel⟩
theorem wd_564 : sj_in (.selects RX9 yX9_uses yX9_uses) := ⟨List.mem_of_getElem? (i := 564) (by decide +kernel), by decide +kernel⟩
theorem kc_L_60 : sj_cw 0 RL 60 yX9_uses mX9_uses 1 := ⟨wd_562, wd_62, wd_565, wd_563, fun _ => wd_564, fun h => absurd h (by decide), ⟨by decide, by decide⟩, by decide +kernel⟩
theorem wd_1000 : sj_in (.methodLink RL 63 yX10_uses) := ⟨List.mem_of_getElem? (i := 1000) (by decide +kernel), by decide +kernel⟩
theorem wd_1003 : sj_in (.code yX10_uses cX10_uses 4 (some .int)) := ⟨List.mem_of_getElem? (i := 1003) (by decide +kernel), by decide +kernel⟩
theorem wd_1001 : sj_in (.instanceMethod yX10_uses) := ⟨List.mem_of_getElem? (i := 1001) (by decide +kernel), by decide +kernel⟩
theorem wd_1002 : sj_in (.selects RX10 yX10_uses yX10_uses) := ⟨List.mem_of_getElem? (i := 1002) (by decide +kernel), by decide +kernel⟩
theorem kc_L_63 : sj_cw 0 RL 63 yX10_uses mX10_uses 1 := ⟨wd_1000, wd_67, wd_1003, wd_1001, fun _ => wd_1002, fun h => absurd h (by decide), ⟨by decide, by decide⟩, by decide +kernel⟩
theorem wd_570 : sj_in (.methodLink RL 64 yX9_cycle) := ⟨List.mem_of_getElem? (i := 570) (by decide +kernel), by decide +kernel⟩
theorem wd_573 : sj_in (.code yX9_cycle cX9_cycle 2 (some .int)) := ⟨List.mem_of_getElem? (i := 573) (by decide +kernel), by decide +kernel⟩
theorem wd_571 : sj_in (.instanceMethod yX9_cycle) := ⟨List.mem_of_getElem? (i := 571) (by decide +kernel), by decide +kernel⟩
theorem wd_572 : sj_in (.selects RX9 yX9_cycle yX9_cycle) := ⟨List.mem_of_getElem? (i := 572) (by decide +kernel), by decide +kernel⟩
theorem kc_L_64 : sj_cw 0 RL 64 yX9_cycle mX9_cycle 1 := ⟨wd_570, wd_62, wd_573, wd_571, fun _ => wd_572, fun h => absurd h (by decide), ⟨by decide, by decide⟩, by decide +kernel⟩
theorem wd_1004 : sj_in (.methodLink RL 67 yX10_cycle) := ⟨List.mem_of_getElem? (i := 1004) (by decide +kernel), by decide +kernel⟩
theorem wd_1007 : sj_in (.code yX10_cycle cX10_cycle 3 (some .int)) := ⟨List.mem_of_getElem? (i := 1007) (by decide +kernel), by decide +kernel⟩
theorem wd_1005 : sj_in (.instanceMethod yX10_cycle) := ⟨List.mem_of_getElem? (i := 1005) (by decide +kernel), by decide +kernel⟩
theorem wd_1006 : sj_in (.selects RX10 yX10_cycle yX10_cycle) := ⟨List.mem_of_getElem? (i := 1006) (by decide +kernel), by decide +kernel⟩
theorem kc_L_67 : sj_cw 0 RL 67 yX10_cycle mX10_cycle 1 := ⟨wd_1004, wd_67, wd_1007, wd_1005, fun _ => wd_1006, fun h => absurd h (by decide), ⟨by decide, by decide⟩, by decide +kernel⟩
theorem wd_612 : sj_in (.methodLink RL 68 yX9_value) := ⟨List.mem_of_getElem? (i := 612) (by decide +kernel), by decide +kernel⟩
theorem wd_615 : sj_in (.code yX9_value cX9_value 4 (some .int)) := ⟨List.mem_of_getElem? (i := 615) (by decide +kernel), by decide +kernel⟩
theorem wd_613 : sj_in (.instanceMethod yX9_value) := ⟨List.mem_of_getElem? (i := 613) (by decide +kernel), by decide +kernel⟩
theorem wd_614 : sj_in (.selects RX9 yX9_value yX9_value) := ⟨List.mem_of_getElem? (i := 614) (by decide +kernel), by decide +kernel⟩
theorem kc_L_68 : sj_cw 0 RL 68 yX9_value mX9_value 2 := ⟨wd_612, wd_62, wd_615, wd_613, fun _ => wd_614, fun h => absurd h (by decide), ⟨by decide, by decide⟩, by decide +kernel⟩
theorem wd_1021 : sj_in (.methodLink RL 71 yX10_value) := ⟨List.mem_of_getElem? (i := 1021) (by decide +kernel), by decide +kernel⟩
theorem wd_1024 : sj_in (.code yX10_value cX10_value 3 (some .int)) := ⟨List.mem_of_getElem? (i := 1024) (by decide +kernel), by decide +kernel⟩
theorem wd_1022 : sj_in (.instanceMethod yX10_value) := ⟨List.mem_of_getElem? (i := 1022) (by decide +kernel), by decide +kernel⟩
theorem wd_1023 : sj_in (.selects RX10 yX10_value yX10_value) := ⟨List.mem_of_getElem? (i := 1023) (by decide +kernel), by decide +kernel⟩
theorem kc_L_71 : sj_cw 0 RL 71 yX10_value mX10_value 2 := ⟨wd_1021, wd_67, wd_1024, wd_1022, fun _ => wd_1023, fun h => absurd h (by decide), ⟨by decide, by decide⟩, by decide +kernel⟩
theorem wd_624 : sj_in (.methodLink RL 72 yX9_stream) := ⟨List.mem_of_getElem? (i := 624) (by decide +kernel), by decide +kernel⟩
theorem wd_627 : sj_in (.code yX9_stream cX9_stream 4 (some .int)) := ⟨List.mem_of_getElem? (i := 627) (by decide +kernel), by decide +kernel⟩
theorem wd_625 : sj_in (.instanceMethod yX9_stream) := ⟨List.mem_of_getElem? (i := 625) (by decide +kernel), by decide +kernel⟩
theorem wd_626 : sj_in (.selects RX9 yX9_stream yX9_stream) := ⟨List.mem_of_getElem? (i := 626) (by decide +kernel), by decide +kernel⟩
theorem kc_L_72 : sj_cw 0 RL 72 yX9_stream mX9_stream 2 := ⟨wd_624, wd_62, wd_627, wd_625, fun _ => wd_626, fun h => absurd h (by decide), ⟨by decide, by decide⟩, by decide +kernel⟩
theorem wd_1025 : sj_in (.methodLink RL 75 yX10_stream) := ⟨List.mem_of_getElem? (i := 1025) (by decide +kernel), by decide +kernel⟩
theorem wd_1028 : sj_in (.code yX10_stream cX10_stream 3 (some .int)) := ⟨List.mem_of_getElem? (i := 1028) (by decide +kernel), by decide +kernel⟩
theorem wd_1026 : sj_in (.instanceMethod yX10_stream) := ⟨List.mem_of_getElem? (i := 1026) (by decide +kernel), by decide +kernel⟩
theorem wd_1027 : sj_in (.selects RX10 yX10_stream yX10_stream) := ⟨List.mem_of_getElem? (i := 1027) (by decide +kernel), by decide +kernel⟩
theorem kc_L_75 : sj_cw 0 RL 75 yX10_stream mX10_stream 2 := ⟨wd_1025, wd_67, wd_1028, wd_1026, fun _ => wd_1027, fun h => absurd h (by decide), ⟨by decide, by decide⟩, by decide +kernel⟩
theorem wd_656 : sj_in (.methodLink RL 76 yX9_parting) := ⟨List.mem_of_getElem? (i := 656) (by decide +kernel), by decide +kernel⟩
theorem wd_659 : sj_in (.code yX9_parting cX9_parting 4 (some .int)) := ⟨List.mem_of_getElem? (i := 659) (by decide +kernel), by decide +kernel⟩
theorem wd_657 : sj_in (.instanceMethod yX9_parting) := ⟨List.mem_of_getElem? (i := 657) (by decide +kernel), by decide +kernel⟩
theorem wd_658 : sj_in (.selects RX9 yX9_parting yX9_parting) := ⟨List.mem_of_getElem? (i := 658) (by decide +kernel), by decide +kernel⟩
theorem kc_L_76 : sj_cw 0 RL 76 yX9_parting mX9_parting 2 := ⟨wd_656, wd_62, wd_659, wd_657, fun _ => wd_658, fun h => absurd h (by decide), ⟨by decide, by decide⟩, by decide +kernel⟩
theorem wd_1045 : sj_in (.methodLink RL 79 yX10_parting) := ⟨List.mem_of_getElem? (i := 1045) (by decide +kernel), by decide +kernel⟩
theorem wd_1048 : sj_in (.code yX10_parting cX10_parting 3 (some .int)) := ⟨List.mem_of_getElem? (i := 1048) (by decide +kernel), by decide +kernel⟩
theorem wd_1046 : sj_in (.instanceMethod yX10_parting) := ⟨List.mem_of_getElem? (i := 1046) (by decide +kernel), by decide +kernel⟩
theorem wd_1047 : sj_in (.selects RX10 yX10_parting yX10_parting) := ⟨List.mem_of_getElem? (i := 1047) (by decide +kernel), by decide +kernel⟩
theorem kc_L_79 : sj_cw 0 RL 79 yX10_parting mX10_parting 2 := ⟨wd_1045, wd_67, wd_1048, wd_1046, fun _ => wd_1047, fun h => absurd h (by decide), ⟨by decide, by decide⟩, by decide +kernel⟩
theorem wd_668 : sj_in (.methodLink RL 80 yX9_alike) := ⟨List.mem_of_getElem? (i := 668) (by decide +kernel), by decide +kernel⟩
theorem wd_671 : sj_in (.code yX9_alike cX9_alike 4 (some .int)) := ⟨List.mem_of_getElem? (i := 671) (by decide +kernel), by decide +kernel⟩
theorem wd_669 : sj_in (.instanceMethod yX9_alike) := ⟨List.mem_of_getElem? (i := 669) (by decide +kernel), by decide +kernel⟩
theorem wd_670 : sj_in (.selects RX9 yX9_alike yX9_alike) := ⟨List.mem_of_getElem? (i := 670) (by decide +kernel), by decide +kernel⟩
theorem kc_L_80 : sj_cw 0 RL 80 yX9_alike mX9_alike 1 := ⟨wd_668, wd_62, wd_671, wd_669, fun _ => wd_670, fun h => absurd h (by decide), ⟨by decide, by decide⟩, by decide +kernel⟩
theorem wd_1053 : sj_in (.methodLink RL 83 yX10_alike) := ⟨List.mem_of_getElem? (i := 1053) (by decide +kernel), by decide +kernel⟩
theorem wd_1056 : sj_in (.code yX10_alike cX10_alike 4 (some .int)) := ⟨List.mem_of_getElem? (i := 1056) (by decide +kernel), by decide +kernel⟩
theorem wd_1054 : sj_in (.instanceMethod yX10_alike) := ⟨List.mem_of_getElem? (i := 1054) (by decide +kernel), by decide +kernel⟩
theorem wd_1055 : sj_in (.selects RX10 yX10_alike yX10_alike) := ⟨List.mem_of_getElem? (i := 1055) (by decide +kernel), by decide +kernel⟩
theorem kc_L_83 : sj_cw 0 RL 83 yX10_alike mX10_alike 1 := ⟨wd_1053, wd_67, wd_1056, wd_1054, fun _ => wd_1055, fun h => absurd h (by decide), ⟨by decide, by decide⟩, by decide +kernel⟩
theorem wd_677 : sj_in (.methodLink RL 84 yX9_needs) := ⟨List.mem_of_getElem? (i := 677) (by decide +kernel), by decide +kernel⟩
theorem wd_680 : sj_in (.code yX9_needs cX9_needs 6 (some .int)) := ⟨List.mem_of_getElem? (i := 680) (by decide +kernel), by decide +kernel⟩
theorem wd_678 : sj_in (.instanceMethod yX9_needs) := ⟨List.mem_of_getElem? (i := 678) (by decide +kernel), by decide +kernel⟩
theorem wd_679 : sj_in (.selects RX9 yX9_needs yX9_needs) := ⟨List.mem_of_getElem? (i := 679) (by decide +kernel), by decide +kernel⟩
theorem kc_L_84 : sj_cw 0 RL 84 yX9_needs mX9_needs 3 := ⟨wd_677, wd_62, wd_680, wd_678, fun _ => wd_679, fun h => absurd h (by decide), ⟨by decide, by decide⟩, by decide +kernel⟩
theorem wd_1057 : sj_in (.methodLink RL 88 yX10_needs) := ⟨List.mem_of_getElem? (i := 1057) (by decide +kernel), by decide +kernel⟩
theorem wd_1060 : sj_in (.code yX10_needs cX10_needs 5 (some .int)) := ⟨List.mem_of_getElem? (i := 1060) (by decide +kernel), by decide +kernel⟩
theorem wd_1058 : sj_in (.instanceMethod yX10_needs) := ⟨List.mem_of_getElem? (i := 1058) (by decide +kernel), by decide +kernel⟩
theorem wd_1059 : sj_in (.selects RX10 yX10_needs yX10_needs) := ⟨List.mem_of_getElem? (i := 1059) (by decide +kernel), by decide +kernel⟩
theorem kc_L_88 : sj_cw 0 RL 88 yX10_needs mX10_needs 3 := ⟨wd_1057, wd_67, wd_1060, wd_1058, fun _ => wd_1059, fun h => absurd h (by decide), ⟨by decide, by decide⟩, by decide +kernel⟩
theorem wd_714 : sj_in (.methodLink RL 89 yX9_keep) := ⟨List.mem_of_getElem? (i := 714) (by decide +kernel), by decide +kernel⟩
theorem wd_717 : sj_in (.code yX9_keep cX9_keep 4 (some .int)) := ⟨List.mem_of_getElem? (i := 717) (by decide +kernel), by decide +kernel⟩
theorem wd_715 : sj_in (.instanceMethod yX9_keep) := ⟨List.mem_of_getElem? (i := 715) (by decide +kernel), by decide +kernel⟩
theorem wd_716 : sj_in (.selects RX9 yX9_keep yX9_keep) := ⟨List.mem_of_getElem? (i := 716) (by decide +kernel), by decide +kernel⟩
theorem kc_L_89 : sj_cw 0 RL 89 yX9_keep mX9_keep 1 := ⟨wd_714, wd_62, wd_717, wd_715, fun _ => wd_716, fun h => absurd h (by decide), ⟨by decide, by decide⟩, by decide +kernel⟩
theorem wd_1073 : sj_in (.methodLink RL 92 yX10_keep) := ⟨List.mem_of_getElem? (i := 1073) (by decide +kernel), by decide +kernel⟩
theorem wd_1076 : sj_in (.code yX10_keep cX10_keep 3 (some .int)) := ⟨List.mem_of_getElem? (i := 1076) (by decide +kernel), by decide +kernel⟩
theorem wd_1074 : sj_in (.instanceMethod yX10_keep) := ⟨List.mem_of_getElem? (i := 1074) (by decide +kernel), by decide +kernel⟩
theorem wd_1075 : sj_in (.selects RX10 yX10_keep yX10_keep) := ⟨List.mem_of_getElem? (i := 1075) (by decide +kernel), by decide +kernel⟩
theorem kc_L_92 : sj_cw 0 RL 92 yX10_keep mX10_keep 1 := ⟨wd_1073, wd_67, wd_1076, wd_1074, fun _ => wd_1075, fun h => absurd h (by decide), ⟨by decide, by decide⟩, by decide +kernel⟩
theorem wd_722 : sj_in (.methodLink RL 93 yX9_back) := ⟨List.mem_of_getElem? (i := 722) (by decide +kernel), by decide +kernel⟩
theorem wd_725 : sj_in (.code yX9_back cX9_back 3 (some .int)) := ⟨List.mem_of_getElem? (i := 725) (by decide +kernel), by decide +kernel⟩
theorem wd_723 : sj_in (.instanceMethod yX9_back) := ⟨List.mem_of_getElem? (i := 723) (by decide +kernel), by decide +kernel⟩
theorem wd_724 : sj_in (.selects RX9 yX9_back yX9_back) := ⟨List.mem_of_getElem? (i := 724) (by decide +kernel), by decide +kernel⟩
theorem kc_L_93 : sj_cw 0 RL 93 yX9_back mX9_back 1 := ⟨wd_722, wd_62, wd_725, wd_723, fun _ => wd_724, fun h => absurd h (by decide), ⟨by decide, by decide⟩, by decide +kernel⟩
theorem wd_1080 : sj_in (.methodLink RL 96 yX10_back) := ⟨List.mem_of_getElem? (i := 1080) (by decide +kernel), by decide +kernel⟩
theorem wd_1083 : sj_in (.code yX10_back cX10_back 3 (some .int)) := ⟨List.mem_of_getElem? (i := 1083) (by decide +kernel), by decide +kernel⟩
theorem wd_1081 : sj_in (.instanceMethod yX10_back) := ⟨List.mem_of_getElem? (i := 1081) (by decide +kernel), by decide +kernel⟩
theorem wd_1082 : sj_in (.selects RX10 yX10_back yX10_back) := ⟨List.mem_of_getElem? (i := 1082) (by decide +kernel), by decide +kernel⟩
theorem kc_L_96 : sj_cw 0 RL 96 yX10_back mX10_back 1 := ⟨wd_1080, wd_67, wd_1083, wd_1081, fun _ => wd_1082, fun h => absurd h (by decide), ⟨by decide, by decide⟩, by decide +kernel⟩
theorem wd_726 : sj_in (.methodLink RL 97 yX9_changed) := ⟨List.mem_of_getElem? (i := 726) (by decide +kernel), by decide +kernel⟩
theorem wd_729 : sj_in (.code yX9_changed cX9_changed 6 (some .int)) := ⟨List.mem_of_getElem? (i := 729) (by decide +kernel), by decide +kernel⟩
theorem wd_727 : sj_in (.instanceMethod yX9_changed) := ⟨List.mem_of_getElem? (i := 727) (by decide +kernel), by decide +kernel⟩
theorem wd_728 : sj_in (.selects RX9 yX9_changed yX9_changed) := ⟨List.mem_of_getElem? (i := 728) (by decide +kernel), by decide +kernel⟩
theorem kc_L_97 : sj_cw 0 RL 97 yX9_changed mX9_changed 2 := ⟨wd_726, wd_62, wd_729, wd_727, fun _ => wd_728, fun h => absurd h (by decide), ⟨by decide, by decide⟩, by decide +kernel⟩
theorem wd_1088 : sj_in (.methodLink RL 100 yX10_changed) := ⟨List.mem_of_getElem? (i := 1088) (by decide +kernel), by decide +kernel⟩
theorem wd_1091 : sj_in (.code yX10_changed cX10_changed 4 (some .int)) := ⟨List.mem_of_getElem? (i := 1091) (by decide +kernel), by decide +kernel⟩
theorem wd_1089 : sj_in (.instanceMethod yX10_changed) := ⟨List.mem_of_getElem? (i := 1089) (by decide +kernel), by decide +kernel⟩
theorem wd_1090 : sj_in (.selects RX10 yX10_changed yX10_changed) := ⟨List.mem_of_getElem? (i := 1090) (by decide +kernel), by decide +kernel⟩
theorem kc_L_100 : sj_cw 0 RL 100 yX10_changed mX10_changed 2 := ⟨wd_1088, wd_67, wd_1091, wd_1089, fun _ => wd_1090, fun h => absurd h (by decide), ⟨by decide, by decide⟩, by decide +kernel⟩
