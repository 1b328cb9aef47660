theorem ly_X12 {s : State} (hE : EX s) {args : Array Value} : ∀ w ∈ wsX120, w.before args s = true := hE.lay [1412, 1414, 1416, 1418, 1420, 1422, 1424, 1426, 1428, 1430, 1432, 1434, 1436, 1438, 1440, 1442, 1444, 1446, 1448, 1450, 1452, 1454, 1456, 1458, 1460, 1462, 1464, 1466, 1468, 1470, 1472] (by decide +kernel) (by decide +kernel)
theorem wd_53 {s : State} (hE : EX s) {args : Array Value} : (Cond.before (.selects RX12 yX12_four yX12_four) args s) = true := hE.w 53 (by decide +kernel) rfl
theorem wd_54 {s : State} (hE : EX s) {args : Array Value} : (Cond.before (.selects RX12 yX12_refuse yX12_refuse) args s) = true := hE.w 54 (by decide +kernel) rfl
theorem wd_55 {s : State} (hE : EX s) {args : Array Value} : (Cond.before (.selects RX12 yX12_copies yX12_copies) args s) = true := hE.w 55 (by decide +kernel) rfl
theorem wd_56 {s : State} (hE : EX s) {args : Array Value} : (Cond.before (.selects RX12 yX12_ahead yX12_ahead) args s) = true := hE.w 56 (by decide +kernel) rfl
theorem wd_57 {s : State} (hE : EX s) {args : Array Value} : (Cond.before (.selects RX12 yX12_byteAt yX12_byteAt) args s) = true := hE.w 57 (by decide +kernel) rfl
theorem wd_58 {s : State} (hE : EX s) {args : Array Value} : (Cond.before (.selects RX12 yX12_aLine yX12_aLine) args s) = true := hE.w 58 (by decide +kernel) rfl
theorem wd_59 {s : State} (hE : EX s) {args : Array Value} : (Cond.before (.selects RX12 yX12_key yX12_key) args s) = true := hE.w 59 (by decide +kernel) rfl
theorem wd_60 {s : State} (hE : EX s) {args : Array Value} : (Cond.before (.selects RX12 yX12_aVertex yX12_aVertex) args s) = true := hE.w 60 (by decide +kernel) rfl
theorem wd_61 {s : State} (hE : EX s) {args : Array Value} : (Cond.before (.selects RX12 yX12_of yX12_of) args s) = true := hE.w 61 (by decide +kernel) rfl
theorem wd_62 {s : State} (hE : EX s) {args : Array Value} : (Cond.before (.selects RX12 yX12_fails yX12_fails) args s) = true := hE.w 62 (by decide +kernel) rfl
theorem wd_63 {s : State} (hE : EX s) {args : Array Value} : (Cond.before (.selects RX12 yX12_isNumber yX12_isNumber) args s) = true := hE.w 63 (by decide +kernel) rfl
theorem wd_64 {s : State} (hE : EX s) {args : Array Value} : (Cond.before (.selects RX12 yX12_takesOn yX12_takesOn) args s) = true := hE.w 64 (by decide +kernel) rfl
theorem wd_65 {s : State} (hE : EX s) {args : Array Value} : (Cond.before (.selects RX12 yX12_anEdge yX12_anEdge) args s) = true := hE.w 65 (by decide +kernel) rfl
theorem wd_66 {s : State} (hE : EX s) {args : Array Value} : (Cond.before (.selects RX12 yX12_aSide yX12_aSide) args s) = true := hE.w 66 (by decide +kernel) rfl
theorem wd_67 {s : State} (hE : EX s) {args : Array Value} : (Cond.before (.selects RX12 yX12_isVertex yX12_isVertex) args s) = true := hE.w 67 (by decide +kernel) rfl
theorem wd_68 {s : State} (hE : EX s) {args : Array Value} : (Cond.before (.selects RX12 yX12_orderAt yX12_orderAt) args s) = true := hE.w 68 (by decide +kernel) rfl
theorem wd_69 {s : State} (hE : EX s) {args : Array Value} : (Cond.before (.selects RX12 yX12_aWord yX12_aWord) args s) = true := hE.w 69 (by decide +kernel) rfl
theorem wd_70 {s : State} (hE : EX s) {args : Array Value} : (Cond.before (.selects RX12 yX12_someNumber yX12_someNumber) args s) = true := hE.w 70 (by decide +kernel) rfl
theorem wd_71 {s : State} (hE : EX s) {args : Array Value} : (Cond.before (.selects RX12 yX12_round yX12_round) args s) = true := hE.w 71 (by decide +kernel) rfl
theorem wd_72 {s : State} (hE : EX s) {args : Array Value} : (Cond.before (.selects RX12 yX12_aStep yX12_aStep) args s) = true := hE.w 72 (by decide +kernel) rfl
theorem wd_73 {s : State} (hE : EX s) {args : Array Value} : (Cond.before (.selects RX12 yX12_isEdge yX12_isEdge) args s) = true := hE.w 73 (by decide +kernel) rfl
theorem wd_74 {s : State} (hE : EX s) {args : Array Value} : (Cond.before (.selects RX12 yX12_from yX12_from) args s) = true := hE.w 74 (by decide +kernel) rfl
theorem wd_75 {s : State} (hE : EX s) {args : Array Value} : (Cond.before (.selects RX12 yX12_ofEdge yX12_ofEdge) args s) = true := hE.w 75 (by decide +kernel) rfl
theorem wd_76 {s : State} (hE : EX s) {args : Array Value} : (Cond.before (.selects RX12 yX12_end yX12_end) args s) = true := hE.w 76 (by decide +kernel) rfl
theorem wd_77 {s : State} (hE : EX s) {args : Array Value} : (Cond.before (.selects RX12 yX12_to yX12_to) args s) = true := hE.w 77 (by decide +kernel) rfl
theorem wd_78 {s : State} (hE : EX s) {args : Array Value} : (Cond.before (.selects RX12 yX12_keeps yX12_keeps) args s) = true := hE.w 78 (by decide +kernel) rfl
theorem wd_79 {s : State} (hE : EX s) {args : Array Value} : (Cond.before (.selects RX12 yX12_acted yX12_acted) args s) = true := hE.w 79 (by decide +kernel) rfl
theorem wd_80 {s : State} (hE : EX s) {args : Array Value} : (Cond.before (.selects RX12 yX12_gives yX12_gives) args s) = true := hE.w 80 (by decide +kernel) rfl
theorem wd_81 {s : State} (hE : EX s) {args : Array Value} : (Cond.before (.selects RX12 yX12_parts yX12_parts) args s) = true := hE.w 81 (by decide +kernel) rfl
theorem wd_82 {s : State} (hE : EX s) {args : Array Value} : (Cond.before (.selects RX12 yX12_partOf yX12_partOf) args s) = true := hE.w 82 (by decide +kernel) rfl
theorem wd_83 {s : State} (hE : EX s) {args : Array Value} : (Cond.before (.selects RX12 yX12_isWord yX12_isWord) args s) = true := hE.w 83 (by decide +kernel) rfl
theorem wd_84 {s : State} (hE : EX s) {args : Array Value} : (Cond.before (.selects RX12 yX12_takes yX12_takes) args s) = true := hE.w 84 (by decide +kernel) rfl
theorem wd_85 {s : State} (hE : EX s) {args : Array Value} : (Cond.before (.selects RX12 yX12_forms yX12_forms) args s) = true := hE.w 85 (by decide +kernel) rfl
theorem wd_86 {s : State} (hE : EX s) {args : Array Value} : (Cond.before (.selects RX12 yX12_by yX12_by) args s) = true := hE.w 86 (by decide +kernel) rfl
theorem wd_87 {s : State} (hE : EX s) {args : Array Value} : (Cond.before (.selects RX12 yX12_into yX12_into) args s) = true := hE.w 87 (by decide +kernel) rfl
theorem wd_88 {s : State} (hE : EX s) {args : Array Value} : (Cond.before (.selects RX12 yX12_more yX12_more) args s) = true := hE.w 88 (by decide +kernel) rfl
theorem wd_89 {s : State} (hE : EX s) {args : Array Value} : (Cond.before (.selects RX12 yX12_joins yX12_joins) args s) = true := hE.w 89 (by decide +kernel) rfl
theorem wd_90 {s : State} (hE : EX s) {args : Array Value} : (Cond.before (.selects RX12 yX12_turns yX12_turns) args s) = true := hE.w 90 (by decide +kernel) rfl
theorem wd_91 {s : State} (hE : EX s) {args : Array Value} : (Cond.before (.selects RX12 yX12_isLoop yX12_isLoop) args s) = true := hE.w 91 (by decide +kernel) rfl
theorem wd_92 {s : State} (hE : EX s) {args : Array Value} : (Cond.before (.selects RX12 yX12_coreOf yX12_coreOf) args s) = true := hE.w 92 (by decide +kernel) rfl
theorem wd_93 {s : State} (hE : EX s) {args : Array Value} : (Cond.before (.selects RX12 yX12_cores yX12_cores) args s) = true := hE.w 93 (by decide +kernel) rfl
theorem wd_94 {s : State} (hE : EX s) {args : Array Value} : (Cond.before (.selects RX12 yX12_areAlike yX12_areAlike) args s) = true := hE.w 94 (by decide +kernel) rfl
theorem wd_95 {s : State} (hE : EX s) {args : Array Value} : (Cond.before (.selects RX12 yX12_wrongLoop yX12_wrongLoop) args s) = true := hE.w 95 (by decide +kernel) rfl
theorem wd_96 {s : State} (hE : EX s) {args : Array Value} : (Cond.before (.selects RX12 yX12_orderIn yX12_orderIn) args s) = true := hE.w 96 (by decide +kernel) rfl
theorem wd_97 {s : State} (hE : EX s) {args : Array Value} : (Cond.before (.selects RX12 yX12_wrongLoops yX12_wrongLoops) args s) = true := hE.w 97 (by decide +kernel) rfl
theorem wd_98 {s : State} (hE : EX s) {args : Array Value} : (Cond.before (.selects RX12 yX12_areKin yX12_areKin) args s) = true := hE.w 98 (by decide +kernel) rfl
theorem wd_99 {s : State} (hE : EX s) {args : Array Value} : (Cond.before (.selects RX12 yX12_along yX12_along) args s) = true := hE.w 99 (by decide +kernel) rfl
theorem wd_100 {s : State} (hE : EX s) {args : Array Value} : (Cond.before (.selects RX12 yX12_begins yX12_begins) args s) = true := hE.w 100 (by decide +kernel) rfl
theorem wd_101 {s : State} (hE : EX s) {args : Array Value} : (Cond.before (.selects RX12 yX12_isCentral yX12_isCentral) args s) = true := hE.w 101 (by decide +kernel) rfl
theorem wd_102 {s : State} (hE : EX s) {args : Array Value} : (Cond.before (.selects RX12 yX12_rootOf yX12_rootOf) args s) = true := hE.w 102 (by decide +kernel) rfl
theorem wd_103 {s : State} (hE : EX s) {args : Array Value} : (Cond.before (.selects RX12 yX12_isPower yX12_isPower) args s) = true := hE.w 103 (by decide +kernel) rfl
theorem wd_104 {s : State} (hE : EX s) {args : Array Value} : (Cond.before (.selects RX12 yX12_wrongPair yX12_wrongPair) args s) = true := hE.w 104 (by decide +kernel) rfl
theorem wd_105 {s : State} (hE : EX s) {args : Array Value} : (Cond.before (.selects RX12 yX12_ways yX12_ways) args s) = true := hE.w 105 (by decide +kernel) rfl
theorem wd_106 {s : State} (hE : EX s) {args : Array Value} : (Cond.before (.selects RX12 yX12_held0 yX12_held0) args s) = true := hE.w 106 (by decide +kernel) rfl
theorem wd_107 {s : State} (hE : EX s) {args : Array Value} : (Cond.before (.selects RX12 yX12_heldFrom yX12_heldFrom) args s) = true := hE.w 107 (by decide +kernel) rfl
theorem wd_108 {s : State} (hE : EX s) {args : Array Value} : (Cond.before (.selects RX12 yX12_choices yX12_choices) args s) = true := hE.w 108 (by decide +kernel) rfl
theorem wd_109 {s : State} (hE : EX s) {args : Array Value} : (Cond.before (.selects RX12 yX12_gives_ yX12_gives_) args s) = true := hE.w 109 (by decide +kernel) rfl
theorem wd_110 {s : State} (hE : EX s) {args : Array Value} : (Cond.before (.selects RX12 yX12_forgets yX12_forgets) args s) = true := hE.w 110 (by decide +kernel) rfl
theorem wd_111 {s : State} (hE : EX s) {args : Array Value} : (Cond.before (.selects RX12 yX12_homes yX12_homes) args s) = true := hE.w 111 (by decide +kernel) rfl
theorem wd_112 {s : State} (hE : EX s) {args : Array Value} : (Cond.before (.selects RX12 yX12_writes yX12_writes) args s) = true := hE.w 112 (by decide +kernel) rfl
theorem wd_113 {s : State} (hE : EX s) {args : Array Value} : (Cond.before (.selects RX12 yX12_writesNumber yX12_writesNumber) args s) = true := hE.w 113 (by decide +kernel) rfl
theorem wd_126 {s : State} (hE : EX s) {args : Array Value} : (Cond.before (.initialized RX12) args s) = true := hE.w 126 (by decide +kernel) rfl
theorem wd_129 {s : State} (hE : EX s) {args : Array Value} : (Cond.before (.initialized RJ0) args s) = true := hE.w 129 (by decide +kernel) rfl
theorem wd_130 {s : State} (hE : EX s) {args : Array Value} : (Cond.before (.initialized RJ1) args s) = true := hE.w 130 (by decide +kernel) rfl
theorem wd_131 {s : State} (hE : EX s) {args : Array Value} : (Cond.before (.initialized RJ3) args s) = true := hE.w 131 (by decide +kernel) rfl
theorem wd_486 {s : State} (hE : EX s) {args : Array Value} : (Cond.before (.instanceMethod yJ0_length_8abf5) args s) = true := hE.w 486 (by decide +kernel) rfl
theorem wd_487 {s : State} (hE : EX s) {args : Array Value} : (Cond.before (.selects RJ0 yJ0_length_8abf5 yJ0_length_8abf5) args s) = true := hE.w 487 (by decide +kernel) rfl
theorem wd_488 {s : State} (hE : EX s) {args : Array Value} : (Cond.before (.code yJ0_length_8abf5 cJ0_length_8abf5 1 (some .int)) args s) = true := hE.w 488 (by decide +kernel) rfl
theorem wd_489 {s : State} (hE : EX s) {args : Array Value} : (Cond.before (.methodLink RJ0 335 yJ0_coder_7d493) args s) = true := hE.w 489 (by decide +kernel) rfl
theorem wd_490 {s : State} (hE : EX s) {args : Array Value} : (Cond.before (.instanceMethod yJ0_coder_7d493) args s) = true := hE.w 490 (by decide +kernel) rfl
theorem wd_491 {s : State} (hE : EX s) {args : Array Value} : (Cond.before (.selects RJ0 yJ0_coder_7d493 yJ0_coder_7d493) args s) = true := hE.w 491 (by decide +kernel) rfl
theorem wd_492 {s : State} (hE : EX s) {args : Array Value} : (Cond.before (.code yJ0_coder_7d493 cJ0_coder_7d493 1 (some .byte)) args s) = true := hE.w 492 (by decide +kernel) rfl
theorem wd_493 {s : State} (hE : EX s) {args : Array Value} : (Cond.before (.fieldLink RJ0 38 "java/lang/String" "COMPACT_STRINGS" "Z") args s) = true := hE.w 493 (by decide +kernel) rfl
theorem wd_496 {s : State} (hE : EX s) {args : Array Value} : (Cond.before (.instanceMethod yJ0_charAt_5068e) args s) = true := hE.w 496 (by decide +kernel) rfl
theorem wd_497 {s : State} (hE : EX s) {args : Array Value} : (Cond.before (.selects RJ0 yJ0_charAt_5068e yJ0_charAt_5068e) args s) = true := hE.w 497 (by decide +kernel) rfl
theorem wd_498 {s : State} (hE : EX s) {args : Array Value} : (Cond.before (.code yJ0_charAt_5068e cJ0_charAt_5068e 2 (some .char)) args s) = true := hE.w 498 (by decide +kernel) rfl
theorem wd_499 {s : State} (hE : EX s) {args : Array Value} : (Cond.before (.methodLink RJ0 492 yJ0_isLatin1_aae02) args s) = true := hE.w 499 (by decide +kernel) rfl
theorem wd_500 {s : State} (hE : EX s) {args : Array Value} : (Cond.before (.instanceMethod yJ0_isLatin1_aae02) args s) = true := hE.w 500 (by decide +kernel) rfl
theorem wd_501 {s : State} (hE : EX s) {args : Array Value} : (Cond.before (.selects RJ0 yJ0_isLatin1_aae02 yJ0_isLatin1_aae02) args s) = true := hE.w 501 (by decide +kernel) rfl
theorem wd_502 {s : State} (hE : EX s) {args : Array Value} : (Cond.before (.code yJ0_isLatin1_aae02 cJ0_isLatin1_aae02 1 (some .boolean)) args s) = true := hE.w 502 (by decide +kernel) rfl
theorem wd_503 {s : State} (hE : EX s) {args : Array Value} : (Cond.before (.methodLink RJ0 495 yJ1_charAt_3b067) args s) = true := hE.w 503 (by decide +kernel) rfl
theorem wd_504 {s : State} (hE : EX s) {args : Array Value} : (Cond.before (.static yJ1_charAt_3b067) args s) = true := hE.w 504 (by decide +kernel) rfl
theorem wd_505 {s : State} (hE : EX s) {args : Array Value} : (Cond.before (.code yJ1_charAt_3b067 cJ1_charAt_3b067 2 (some .char)) args s) = true := hE.w 505 (by decide +kernel) rfl
theorem wd_506 {s : State} (hE : EX s) {args : Array Value} : (Cond.before (.methodLink RJ1 9 yJ0_checkIndex_df160) args s) = true := hE.w 506 (by decide +kernel) rfl
theorem wd_507 {s : State} (hE : EX s) {args : Array Value} : (Cond.before (.static yJ0_checkIndex_df160) args s) = true := hE.w 507 (by decide +kernel) rfl
theorem wd_508 {s : State} (hE : EX s) {args : Array Value} : (Cond.before (.code yJ0_checkIndex_df160 cJ0_checkIndex_df160 2 none) args s) = true := hE.w 508 (by decide +kernel) rfl
theorem wd_509 {s : State} (hE : EX s) {args : Array Value} : (Cond.before (.fieldLink RJ0 1053 "jdk/internal/util/Preconditions" "SIOOBE_FORMATTER" "Ljava/util/function/BiFunction;") args s) = true := hE.w 509 (by decide +kernel) rfl
theorem wd_511 {s : State} (hE : EX s) {args : Array Value} : (Cond.before (.methodLink RJ0 1059 yJ3_checkIndex_8e157) args s) = true := hE.w 511 (by decide +kernel) rfl
theorem wd_512 {s : State} (hE : EX s) {args : Array Value} : (Cond.before (.static yJ3_checkIndex_8e157) args s) = true := hE.w 512 (by decide +kernel) rfl
theorem wd_513 {s : State} (hE : EX s) {args : Array Value} : (Cond.before (.code yJ3_checkIndex_8e157 cJ3_checkIndex_8e157 3 (some .int)) args s) = true := hE.w 513 (by decide +kernel) rfl
theorem wd_1381 {s : State} (hE : EX s) {args : Array Value} : (Cond.before (.fieldLink RX12 7 "GluedWordsModel" "all" "[I") args s) = true := hE.w 1381 (by decide +kernel) rfl
theorem wd_1382 {s : State} (hE : EX s) {args : Array Value} : (Cond.before (.fieldLink RX12 67 "GluedWordsModel" "status" "I") args s) = true := hE.w 1382 (by decide +kernel) rfl
theorem wd_1383 {s : State} (hE : EX s) {args : Array Value} : (Cond.before (.fieldLink RX12 257 "GluedWordsModel" "acts" "I") args s) = true := hE.w 1383 (by decide +kernel) rfl
theorem wd_1384 {s : State} (hE : EX s) {args : Array Value} : (Cond.before (.fieldLink RX12 260 "GluedWordsModel" "marks" "I") args s) = true := hE.w 1384 (by decide +kernel) rfl
theorem wd_1385 {s : State} (hE : EX s) {args : Array Value} : (Cond.before (.fieldLink RX12 15 "GluedWordsModel" "hand" "[[I") args s) = true := hE.w 1385 (by decide +kernel) rfl
theorem wd_1386 {s : State} (hE : EX s) {args : Array Value} : (Cond.before (.fieldLink RX12 97 "GluedWordsModel" "pinches" "I") args s) = true := hE.w 1386 (by decide +kernel) rfl
theorem wd_1387 {s : State} (hE : EX s) {args : Array Value} : (Cond.before (.fieldLink RX12 18 "GluedWordsModel" "long1" "[I") args s) = true := hE.w 1387 (by decide +kernel) rfl
theorem wd_1388 {s : State} (hE : EX s) {args : Array Value} : (Cond.before (.fieldLink RX12 21 "GluedWordsModel" "long2" "[I") args s) = true := hE.w 1388 (by decide +kernel) rfl
theorem wd_1389 {s : State} (hE : EX s) {args : Array Value} : (Cond.before (.fieldLink RX12 24 "GluedWordsModel" "tape" "[B") args s) = true := hE.w 1389 (by decide +kernel) rfl
theorem wd_1390 {s : State} (hE : EX s) {args : Array Value} : (Cond.before (.fieldLink RX12 28 "GluedWordsModel" "text" "[B") args s) = true := hE.w 1390 (by decide +kernel) rfl
theorem wd_1391 {s : State} (hE : EX s) {args : Array Value} : (Cond.before (.fieldLink RX12 135 "GluedWordsModel" "taped" "I") args s) = true := hE.w 1391 (by decide +kernel) rfl
theorem wd_1392 {s : State} (hE : EX s) {args : Array Value} : (Cond.before (.fieldLink RX12 142 "GluedWordsModel" "size" "I") args s) = true := hE.w 1392 (by decide +kernel) rfl
theorem wd_1393 {s : State} (hE : EX s) {args : Array Value} : (Cond.before (.fieldLink RX12 154 "GluedWordsModel" "token" "I") args s) = true := hE.w 1393 (by decide +kernel) rfl
theorem wd_1394 {s : State} (hE : EX s) {args : Array Value} : (Cond.before (.fieldLink RX12 151 "GluedWordsModel" "begin" "I") args s) = true := hE.w 1394 (by decide +kernel) rfl
theorem wd_1395 {s : State} (hE : EX s) {args : Array Value} : (Cond.before (.fieldLink RX12 145 "GluedWordsModel" "end0" "I") args s) = true := hE.w 1395 (by decide +kernel) rfl
theorem wd_1396 {s : State} (hE : EX s) {args : Array Value} : (Cond.before (.fieldLink RX12 164 "GluedWordsModel" "value" "I") args s) = true := hE.w 1396 (by decide +kernel) rfl
theorem wd_1397 {s : State} (hE : EX s) {args : Array Value} : (Cond.before (.fieldLink RX12 184 "GluedWordsModel" "faults" "I") args s) = true := hE.w 1397 (by decide +kernel) rfl
theorem wd_1398 {s : State} (hE : EX s) {args : Array Value} : (Cond.before (.fieldLink RX12 31 "GluedWordsModel" "faultPlace" "I") args s) = true := hE.w 1398 (by decide +kernel) rfl
theorem wd_1399 {s : State} (hE : EX s) {args : Array Value} : (Cond.before (.fieldLink RX12 35 "GluedWordsModel" "faultLine" "I") args s) = true := hE.w 1399 (by decide +kernel) rfl
theorem wd_1400 {s : State} (hE : EX s) {args : Array Value} : (Cond.before (.fieldLink RX12 38 "GluedWordsModel" "faultKind" "I") args s) = true := hE.w 1400 (by decide +kernel) rfl
theorem wd_1401 {s : State} (hE : EX s) {args : Array Value} : (Cond.before (.fieldLink RX12 187 "GluedWordsModel" "lines" "I") args s) = true := hE.w 1401 (by decide +kernel) rfl
theorem wd_1402 {s : State} (hE : EX s) {args : Array Value} : (Cond.before (.fieldLink RX12 302 "GluedWordsModel" "kinFirst" "I") args s) = true := hE.w 1402 (by decide +kernel) rfl
theorem wd_1403 {s : State} (hE : EX s) {args : Array Value} : (Cond.before (.fieldLink RX12 305 "GluedWordsModel" "kinNumber" "I") args s) = true := hE.w 1403 (by decide +kernel) rfl
theorem wd_1404 {s : State} (hE : EX s) {args : Array Value} : (Cond.before (.fieldLink RX12 41 "GluedWordsModel" "queue" "[I") args s) = true := hE.w 1404 (by decide +kernel) rfl
theorem wd_1405 {s : State} (hE : EX s) {args : Array Value} : (Cond.before (.fieldLink RX12 44 "GluedWordsModel" "depth" "[I") args s) = true := hE.w 1405 (by decide +kernel) rfl
theorem wd_1406 {s : State} (hE : EX s) {args : Array Value} : (Cond.before (.fieldLink RX12 47 "GluedWordsModel" "came" "[Z") args s) = true := hE.w 1406 (by decide +kernel) rfl
theorem wd_1407 {s : State} (hE : EX s) {args : Array Value} : (Cond.before (.fieldLink RX12 51 "GluedWordsModel" "central" "[I") args s) = true := hE.w 1407 (by decide +kernel) rfl
theorem wd_1408 {s : State} (hE : EX s) {args : Array Value} : (Cond.before (.fieldLink RX12 56 "GluedWordsModel" "home" "[[[J") args s) = true := hE.w 1408 (by decide +kernel) rfl
theorem wd_1409 {s : State} (hE : EX s) {args : Array Value} : (Cond.before (.fieldLink RX12 60 "GluedWordsModel" "lies" "[J") args s) = true := hE.w 1409 (by decide +kernel) rfl
theorem wd_1410 {s : State} (hE : EX s) {args : Array Value} : (Cond.before (.fieldLink RX12 64 "GluedWordsModel" "out" "[B") args s) = true := hE.w 1410 (by decide +kernel) rfl
theorem wd_1411 {s : State} (hE : EX s) {args : Array Value} : (Cond.before (.fieldLink RX12 368 "GluedWordsModel" "outMany" "I") args s) = true := hE.w 1411 (by decide +kernel) rfl
theorem wd_1484 {s : State} (hE : EX s) {args : Array Value} : (Cond.before (.methodLink RX12 138 yX12_four) args s) = true := hE.w 1484 (by decide +kernel) rfl
theorem wd_1486 {s : State} (hE : EX s) {args : Array Value} : (Cond.before (.instanceMethod yX12_four) args s) = true := hE.w 1486 (by decide +kernel) rfl
theorem wd_1487 {s : State} (hE : EX s) {args : Array Value} : (Cond.before (.code yX12_four cX12_four 3 none) args s) = true := hE.w 1487 (by decide +kernel) rfl
theorem wd_1492 {s : State} (hE : EX s) {args : Array Value} : (Cond.before (.methodLink RX12 200 yX12_isFrom) args s) = true := hE.w 1492 (by decide +kernel) rfl
theorem wd_1493 {s : State} (hE : EX s) {args : Array Value} : (Cond.before (.static yX12_isFrom) args s) = true := hE.w 1493 (by decide +kernel) rfl
theorem wd_1494 {s : State} (hE : EX s) {args : Array Value} : (Cond.before (.code yX12_isFrom cX12_isFrom 3 (some .boolean)) args s) = true := hE.w 1494 (by decide +kernel) rfl
theorem wd_1495 {s : State} (hE : EX s) {args : Array Value} : (Cond.before (.methodLink RX12 238 yX12_refuse) args s) = true := hE.w 1495 (by decide +kernel) rfl
theorem wd_1497 {s : State} (hE : EX s) {args : Array Value} : (Cond.before (.instanceMethod yX12_refuse) args s) = true := hE.w 1497 (by decide +kernel) rfl
theorem wd_1498 {s : State} (hE : EX s) {args : Array Value} : (Cond.before (.code yX12_refuse cX12_refuse 2 (some .int)) args s) = true := hE.w 1498 (by decide +kernel) rfl
theorem wd_1499 {s : State} (hE : EX s) {args : Array Value} : (Cond.before (.methodLink RX12 241 yX12_copies) args s) = true := hE.w 1499 (by decide +kernel) rfl
theorem wd_1501 {s : State} (hE : EX s) {args : Array Value} : (Cond.before (.instanceMethod yX12_copies) args s) = true := hE.w 1501 (by decide +kernel) rfl
theorem wd_1502 {s : State} (hE : EX s) {args : Array Value} : (Cond.before (.code yX12_copies cX12_copies 4 none) args s) = true := hE.w 1502 (by decide +kernel) rfl
theorem wd_1503 {s : State} (hE : EX s) {args : Array Value} : (Cond.before (.methodLink RX12 190 yX12_ahead) args s) = true := hE.w 1503 (by decide +kernel) rfl
theorem wd_1505 {s : State} (hE : EX s) {args : Array Value} : (Cond.before (.instanceMethod yX12_ahead) args s) = true := hE.w 1505 (by decide +kernel) rfl
theorem wd_1506 {s : State} (hE : EX s) {args : Array Value} : (Cond.before (.code yX12_ahead cX12_ahead 2 none) args s) = true := hE.w 1506 (by decide +kernel) rfl
theorem wd_1507 {s : State} (hE : EX s) {args : Array Value} : (Cond.before (.methodLink RX12 148 yX12_byteAt) args s) = true := hE.w 1507 (by decide +kernel) rfl
theorem wd_1509 {s : State} (hE : EX s) {args : Array Value} : (Cond.before (.instanceMethod yX12_byteAt) args s) = true := hE.w 1509 (by decide +kernel) rfl
theorem wd_1510 {s : State} (hE : EX s) {args : Array Value} : (Cond.before (.code yX12_byteAt cX12_byteAt 2 (some .int)) args s) = true := hE.w 1510 (by decide +kernel) rfl
theorem wd_1511 {s : State} (hE : EX s) {args : Array Value} : (Cond.before (.methodLink RX12 157 yX12_isSmall) args s) = true := hE.w 1511 (by decide +kernel) rfl
theorem wd_1512 {s : State} (hE : EX s) {args : Array Value} : (Cond.before (.static yX12_isSmall) args s) = true := hE.w 1512 (by decide +kernel) rfl
theorem wd_1513 {s : State} (hE : EX s) {args : Array Value} : (Cond.before (.code yX12_isSmall cX12_isSmall 1 (some .boolean)) args s) = true := hE.w 1513 (by decide +kernel) rfl
theorem wd_1514 {s : State} (hE : EX s) {args : Array Value} : (Cond.before (.methodLink RX12 161 yX12_isDigit) args s) = true := hE.w 1514 (by decide +kernel) rfl
theorem wd_1515 {s : State} (hE : EX s) {args : Array Value} : (Cond.before (.static yX12_isDigit) args s) = true := hE.w 1515 (by decide +kernel) rfl
theorem wd_1516 {s : State} (hE : EX s) {args : Array Value} : (Cond.before (.code yX12_isDigit cX12_isDigit 1 (some .boolean)) args s) = true := hE.w 1516 (by decide +kernel) rfl
theorem wd_1517 {s : State} (hE : EX s) {args : Array Value} : (Cond.before (.methodLink RX12 167 Lib.Math.min.name) args s) = true := hE.w 1517 (by decide +kernel) rfl
theorem wd_1518 {s : State} (hE : EX s) {args : Array Value} : (Cond.before (.methodLink RX12 245 yX12_aLine) args s) = true := hE.w 1518 (by decide +kernel) rfl
theorem wd_1520 {s : State} (hE : EX s) {args : Array Value} : (Cond.before (.instanceMethod yX12_aLine) args s) = true := hE.w 1520 (by decide +kernel) rfl
theorem wd_1521 {s : State} (hE : EX s) {args : Array Value} : (Cond.before (.code yX12_aLine cX12_aLine 3 (some .boolean)) args s) = true := hE.w 1521 (by decide +kernel) rfl
theorem wd_1522 {s : State} (hE : EX s) {args : Array Value} : (Cond.before (.methodLink RX12 226 yX12_key) args s) = true := hE.w 1522 (by decide +kernel) rfl
theorem wd_1524 {s : State} (hE : EX s) {args : Array Value} : (Cond.before (.instanceMethod yX12_key) args s) = true := hE.w 1524 (by decide +kernel) rfl
theorem wd_1525 {s : State} (hE : EX s) {args : Array Value} : (Cond.before (.code yX12_key cX12_key 6 (some .int)) args s) = true := hE.w 1525 (by decide +kernel) rfl
theorem wd_1527 {s : State} (hE : EX s) {args : Array Value} : (Cond.before (.methodLink RX12 174 yJ0_length_8abf5) args s) = true := hE.w 1527 (by decide +kernel) rfl
theorem wd_1528 {s : State} (hE : EX s) {args : Array Value} : (Cond.before (.methodLink RX12 180 yJ0_charAt_5068e) args s) = true := hE.w 1528 (by decide +kernel) rfl
theorem wd_1529 {s : State} (hE : EX s) {args : Array Value} : (Cond.before (.methodLink RX12 229 yX12_aVertex) args s) = true := hE.w 1529 (by decide +kernel) rfl
theorem wd_1531 {s : State} (hE : EX s) {args : Array Value} : (Cond.before (.instanceMethod yX12_aVertex) args s) = true := hE.w 1531 (by decide +kernel) rfl
theorem wd_1532 {s : State} (hE : EX s) {args : Array Value} : (Cond.before (.code yX12_aVertex cX12_aVertex 1 (some .boolean)) args s) = true := hE.w 1532 (by decide +kernel) rfl
theorem wd_1533 {s : State} (hE : EX s) {args : Array Value} : (Cond.before (.methodLink RX12 70 yX12_of) args s) = true := hE.w 1533 (by decide +kernel) rfl
theorem wd_1535 {s : State} (hE : EX s) {args : Array Value} : (Cond.before (.instanceMethod yX12_of) args s) = true := hE.w 1535 (by decide +kernel) rfl
theorem wd_1536 {s : State} (hE : EX s) {args : Array Value} : (Cond.before (.code yX12_of cX12_of 2 (some .int)) args s) = true := hE.w 1536 (by decide +kernel) rfl
theorem wd_1537 {s : State} (hE : EX s) {args : Array Value} : (Cond.before (.methodLink RX12 193 yX12_fails) args s) = true := hE.w 1537 (by decide +kernel) rfl
theorem wd_1539 {s : State} (hE : EX s) {args : Array Value} : (Cond.before (.instanceMethod yX12_fails) args s) = true := hE.w 1539 (by decide +kernel) rfl
theorem wd_1540 {s : State} (hE : EX s) {args : Array Value} : (Cond.before (.code yX12_fails cX12_fails 2 (some .boolean)) args s) = true := hE.w 1540 (by decide +kernel) rfl
theorem wd_1541 {s : State} (hE : EX s) {args : Array Value} : (Cond.before (.methodLink RX12 196 yX12_isNumber) args s) = true := hE.w 1541 (by decide +kernel) rfl
theorem wd_1543 {s : State} (hE : EX s) {args : Array Value} : (Cond.before (.instanceMethod yX12_isNumber) args s) = true := hE.w 1543 (by decide +kernel) rfl
theorem wd_1544 {s : State} (hE : EX s) {args : Array Value} : (Cond.before (.code yX12_isNumber cX12_isNumber 1 (some .boolean)) args s) = true := hE.w 1544 (by decide +kernel) rfl
theorem wd_1545 {s : State} (hE : EX s) {args : Array Value} : (Cond.before (.methodLink RX12 204 yX12_takesOn) args s) = true := hE.w 1545 (by decide +kernel) rfl
theorem wd_1547 {s : State} (hE : EX s) {args : Array Value} : (Cond.before (.instanceMethod yX12_takesOn) args s) = true := hE.w 1547 (by decide +kernel) rfl
theorem wd_1548 {s : State} (hE : EX s) {args : Array Value} : (Cond.before (.code yX12_takesOn cX12_takesOn 1 (some .boolean)) args s) = true := hE.w 1548 (by decide +kernel) rfl
theorem wd_1549 {s : State} (hE : EX s) {args : Array Value} : (Cond.before (.methodLink RX12 232 yX12_anEdge) args s) = true := hE.w 1549 (by decide +kernel) rfl
theorem wd_1551 {s : State} (hE : EX s) {args : Array Value} : (Cond.before (.instanceMethod yX12_anEdge) args s) = true := hE.w 1551 (by decide +kernel) rfl
theorem wd_1552 {s : State} (hE : EX s) {args : Array Value} : (Cond.before (.code yX12_anEdge cX12_anEdge 2 (some .boolean)) args s) = true := hE.w 1552 (by decide +kernel) rfl
theorem wd_1553 {s : State} (hE : EX s) {args : Array Value} : (Cond.before (.methodLink RX12 210 yX12_aSide) args s) = true := hE.w 1553 (by decide +kernel) rfl
theorem wd_1555 {s : State} (hE : EX s) {args : Array Value} : (Cond.before (.instanceMethod yX12_aSide) args s) = true := hE.w 1555 (by decide +kernel) rfl
theorem wd_1556 {s : State} (hE : EX s) {args : Array Value} : (Cond.before (.code yX12_aSide cX12_aSide 2 (some .boolean)) args s) = true := hE.w 1556 (by decide +kernel) rfl
theorem wd_1557 {s : State} (hE : EX s) {args : Array Value} : (Cond.before (.methodLink RX12 207 yX12_isVertex) args s) = true := hE.w 1557 (by decide +kernel) rfl
theorem wd_1559 {s : State} (hE : EX s) {args : Array Value} : (Cond.before (.instanceMethod yX12_isVertex) args s) = true := hE.w 1559 (by decide +kernel) rfl
theorem wd_1560 {s : State} (hE : EX s) {args : Array Value} : (Cond.before (.code yX12_isVertex cX12_isVertex 2 (some .boolean)) args s) = true := hE.w 1560 (by decide +kernel) rfl
theorem wd_1561 {s : State} (hE : EX s) {args : Array Value} : (Cond.before (.methodLink RX12 84 yX12_orderAt) args s) = true := hE.w 1561 (by decide +kernel) rfl
theorem wd_1563 {s : State} (hE : EX s) {args : Array Value} : (Cond.before (.instanceMethod yX12_orderAt) args s) = true := hE.w 1563 (by decide +kernel) rfl
theorem wd_1564 {s : State} (hE : EX s) {args : Array Value} : (Cond.before (.code yX12_orderAt cX12_orderAt 2 (some .int)) args s) = true := hE.w 1564 (by decide +kernel) rfl
theorem wd_1565 {s : State} (hE : EX s) {args : Array Value} : (Cond.before (.methodLink RX12 235 yX12_aWord) args s) = true := hE.w 1565 (by decide +kernel) rfl
theorem wd_1567 {s : State} (hE : EX s) {args : Array Value} : (Cond.before (.instanceMethod yX12_aWord) args s) = true := hE.w 1567 (by decide +kernel) rfl
theorem wd_1568 {s : State} (hE : EX s) {args : Array Value} : (Cond.before (.code yX12_aWord cX12_aWord 3 (some .boolean)) args s) = true := hE.w 1568 (by decide +kernel) rfl
theorem wd_1569 {s : State} (hE : EX s) {args : Array Value} : (Cond.before (.methodLink RX12 216 yX12_someNumber) args s) = true := hE.w 1569 (by decide +kernel) rfl
theorem wd_1571 {s : State} (hE : EX s) {args : Array Value} : (Cond.before (.instanceMethod yX12_someNumber) args s) = true := hE.w 1571 (by decide +kernel) rfl
theorem wd_1572 {s : State} (hE : EX s) {args : Array Value} : (Cond.before (.code yX12_someNumber cX12_someNumber 3 (some .int)) args s) = true := hE.w 1572 (by decide +kernel) rfl
theorem wd_1573 {s : State} (hE : EX s) {args : Array Value} : (Cond.before (.methodLink RX12 110 yX12_round) args s) = true := hE.w 1573 (by decide +kernel) rfl
theorem wd_1575 {s : State} (hE : EX s) {args : Array Value} : (Cond.before (.instanceMethod yX12_round) args s) = true := hE.w 1575 (by decide +kernel) rfl
theorem wd_1576 {s : State} (hE : EX s) {args : Array Value} : (Cond.before (.code yX12_round cX12_round 4 (some .int)) args s) = true := hE.w 1576 (by decide +kernel) rfl
theorem wd_1577 {s : State} (hE : EX s) {args : Array Value} : (Cond.before (.methodLink RX12 100 yX12_single) args s) = true := hE.w 1577 (by decide +kernel) rfl
theorem wd_1578 {s : State} (hE : EX s) {args : Array Value} : (Cond.before (.static yX12_single) args s) = true := hE.w 1578 (by decide +kernel) rfl
theorem wd_1579 {s : State} (hE : EX s) {args : Array Value} : (Cond.before (.code yX12_single cX12_single 3 none) args s) = true := hE.w 1579 (by decide +kernel) rfl
theorem wd_1580 {s : State} (hE : EX s) {args : Array Value} : (Cond.before (.methodLink RX12 219 yX12_aStep) args s) = true := hE.w 1580 (by decide +kernel) rfl
theorem wd_1582 {s : State} (hE : EX s) {args : Array Value} : (Cond.before (.instanceMethod yX12_aStep) args s) = true := hE.w 1582 (by decide +kernel) rfl
theorem wd_1583 {s : State} (hE : EX s) {args : Array Value} : (Cond.before (.code yX12_aStep cX12_aStep 4 (some .boolean)) args s) = true := hE.w 1583 (by decide +kernel) rfl
theorem wd_1584 {s : State} (hE : EX s) {args : Array Value} : (Cond.before (.methodLink RX12 213 yX12_isEdge) args s) = true := hE.w 1584 (by decide +kernel) rfl
theorem wd_1586 {s : State} (hE : EX s) {args : Array Value} : (Cond.before (.instanceMethod yX12_isEdge) args s) = true := hE.w 1586 (by decide +kernel) rfl
theorem wd_1587 {s : State} (hE : EX s) {args : Array Value} : (Cond.before (.code yX12_isEdge cX12_isEdge 2 (some .boolean)) args s) = true := hE.w 1587 (by decide +kernel) rfl
theorem wd_1588 {s : State} (hE : EX s) {args : Array Value} : (Cond.before (.methodLink RX12 78 yX12_from) args s) = true := hE.w 1588 (by decide +kernel) rfl
theorem wd_1590 {s : State} (hE : EX s) {args : Array Value} : (Cond.before (.instanceMethod yX12_from) args s) = true := hE.w 1590 (by decide +kernel) rfl
theorem wd_1591 {s : State} (hE : EX s) {args : Array Value} : (Cond.before (.code yX12_from cX12_from 2 (some .int)) args s) = true := hE.w 1591 (by decide +kernel) rfl
theorem wd_1592 {s : State} (hE : EX s) {args : Array Value} : (Cond.before (.methodLink RX12 74 yX12_ofEdge) args s) = true := hE.w 1592 (by decide +kernel) rfl
theorem wd_1594 {s : State} (hE : EX s) {args : Array Value} : (Cond.before (.instanceMethod yX12_ofEdge) args s) = true := hE.w 1594 (by decide +kernel) rfl
theorem wd_1595 {s : State} (hE : EX s) {args : Array Value} : (Cond.before (.code yX12_ofEdge cX12_ofEdge 3 (some .int)) args s) = true := hE.w 1595 (by decide +kernel) rfl
theorem wd_1596 {s : State} (hE : EX s) {args : Array Value} : (Cond.before (.methodLink RX12 117 yX12_end) args s) = true := hE.w 1596 (by decide +kernel) rfl
theorem wd_1598 {s : State} (hE : EX s) {args : Array Value} : (Cond.before (.instanceMethod yX12_end) args s) = true := hE.w 1598 (by decide +kernel) rfl
theorem wd_1599 {s : State} (hE : EX s) {args : Array Value} : (Cond.before (.code yX12_end cX12_end 2 (some .int)) args s) = true := hE.w 1599 (by decide +kernel) rfl
theorem wd_1600 {s : State} (hE : EX s) {args : Array Value} : (Cond.before (.methodLink RX12 87 yX12_step) args s) = true := hE.w 1600 (by decide +kernel) rfl
theorem wd_1601 {s : State} (hE : EX s) {args : Array Value} : (Cond.before (.static yX12_step) args s) = true := hE.w 1601 (by decide +kernel) rfl
theorem wd_1602 {s : State} (hE : EX s) {args : Array Value} : (Cond.before (.code yX12_step cX12_step 2 (some .int)) args s) = true := hE.w 1602 (by decide +kernel) rfl
theorem wd_1603 {s : State} (hE : EX s) {args : Array Value} : (Cond.before (.methodLink RX12 91 yX12_to) args s) = true := hE.w 1603 (by decide +kernel) rfl
theorem wd_1605 {s : State} (hE : EX s) {args : Array Value} : (Cond.before (.instanceMethod yX12_to) args s) = true := hE.w 1605 (by decide +kernel) rfl
theorem wd_1606 {s : State} (hE : EX s) {args : Array Value} : (Cond.before (.code yX12_to cX12_to 2 (some .int)) args s) = true := hE.w 1606 (by decide +kernel) rfl
theorem wd_1607 {s : State} (hE : EX s) {args : Array Value} : (Cond.before (.methodLink RX12 104 yX12_goes) args s) = true := hE.w 1607 (by decide +kernel) rfl
theorem wd_1608 {s : State} (hE : EX s) {args : Array Value} : (Cond.before (.static yX12_goes) args s) = true := hE.w 1608 (by decide +kernel) rfl
theorem wd_1609 {s : State} (hE : EX s) {args : Array Value} : (Cond.before (.code yX12_goes cX12_goes 3 none) args s) = true := hE.w 1609 (by decide +kernel) rfl
theorem wd_1610 {s : State} (hE : EX s) {args : Array Value} : (Cond.before (.methodLink RX12 223 yX12_keeps) args s) = true := hE.w 1610 (by decide +kernel) rfl
theorem wd_1612 {s : State} (hE : EX s) {args : Array Value} : (Cond.before (.instanceMethod yX12_keeps) args s) = true := hE.w 1612 (by decide +kernel) rfl
theorem wd_1613 {s : State} (hE : EX s) {args : Array Value} : (Cond.before (.code yX12_keeps cX12_keeps 3 none) args s) = true := hE.w 1613 (by decide +kernel) rfl
theorem wd_1614 {s : State} (hE : EX s) {args : Array Value} : (Cond.before (.methodLink RX12 248 yX12_acted) args s) = true := hE.w 1614 (by decide +kernel) rfl
theorem wd_1616 {s : State} (hE : EX s) {args : Array Value} : (Cond.before (.instanceMethod yX12_acted) args s) = true := hE.w 1616 (by decide +kernel) rfl
theorem wd_1617 {s : State} (hE : EX s) {args : Array Value} : (Cond.before (.code yX12_acted cX12_acted 3 none) args s) = true := hE.w 1617 (by decide +kernel) rfl
theorem wd_1618 {s : State} (hE : EX s) {args : Array Value} : (Cond.before (.methodLink RX12 251 yX12_gives) args s) = true := hE.w 1618 (by decide +kernel) rfl
theorem wd_1620 {s : State} (hE : EX s) {args : Array Value} : (Cond.before (.instanceMethod yX12_gives) args s) = true := hE.w 1620 (by decide +kernel) rfl
theorem wd_1621 {s : State} (hE : EX s) {args : Array Value} : (Cond.before (.code yX12_gives cX12_gives 2 (some .int)) args s) = true := hE.w 1621 (by decide +kernel) rfl
theorem wd_1630 {s : State} (hE : EX s) {args : Array Value} : (Cond.before (.methodLink RX12 263 yX12_parts) args s) = true := hE.w 1630 (by decide +kernel) rfl
theorem wd_1632 {s : State} (hE : EX s) {args : Array Value} : (Cond.before (.instanceMethod yX12_parts) args s) = true := hE.w 1632 (by decide +kernel) rfl
theorem wd_1633 {s : State} (hE : EX s) {args : Array Value} : (Cond.before (.code yX12_parts cX12_parts 3 (some .int)) args s) = true := hE.w 1633 (by decide +kernel) rfl
theorem wd_1634 {s : State} (hE : EX s) {args : Array Value} : (Cond.before (.methodLink RX12 254 yX12_partOf) args s) = true := hE.w 1634 (by decide +kernel) rfl
theorem wd_1636 {s : State} (hE : EX s) {args : Array Value} : (Cond.before (.instanceMethod yX12_partOf) args s) = true := hE.w 1636 (by decide +kernel) rfl
theorem wd_1637 {s : State} (hE : EX s) {args : Array Value} : (Cond.before (.code yX12_partOf cX12_partOf 5 (some .int)) args s) = true := hE.w 1637 (by decide +kernel) rfl
theorem wd_1650 {s : State} (hE : EX s) {args : Array Value} : (Cond.before (.methodLink RX12 266 yX12_isWord) args s) = true := hE.w 1650 (by decide +kernel) rfl
theorem wd_1652 {s : State} (hE : EX s) {args : Array Value} : (Cond.before (.instanceMethod yX12_isWord) args s) = true := hE.w 1652 (by decide +kernel) rfl
theorem wd_1653 {s : State} (hE : EX s) {args : Array Value} : (Cond.before (.code yX12_isWord cX12_isWord 2 (some .boolean)) args s) = true := hE.w 1653 (by decide +kernel) rfl
theorem wd_1654 {s : State} (hE : EX s) {args : Array Value} : (Cond.before (.methodLink RX12 127 yX12_takes) args s) = true := hE.w 1654 (by decide +kernel) rfl
theorem wd_1656 {s : State} (hE : EX s) {args : Array Value} : (Cond.before (.instanceMethod yX12_takes) args s) = true := hE.w 1656 (by decide +kernel) rfl
theorem wd_1657 {s : State} (hE : EX s) {args : Array Value} : (Cond.before (.code yX12_takes cX12_takes 4 none) args s) = true := hE.w 1657 (by decide +kernel) rfl
theorem wd_1658 {s : State} (hE : EX s) {args : Array Value} : (Cond.before (.methodLink RX12 124 yX12_forms) args s) = true := hE.w 1658 (by decide +kernel) rfl
theorem wd_1660 {s : State} (hE : EX s) {args : Array Value} : (Cond.before (.instanceMethod yX12_forms) args s) = true := hE.w 1660 (by decide +kernel) rfl
theorem wd_1661 {s : State} (hE : EX s) {args : Array Value} : (Cond.before (.code yX12_forms cX12_forms 9 none) args s) = true := hE.w 1661 (by decide +kernel) rfl
theorem wd_1662 {s : State} (hE : EX s) {args : Array Value} : (Cond.before (.methodLink RX12 94 yX12_number) args s) = true := hE.w 1662 (by decide +kernel) rfl
theorem wd_1663 {s : State} (hE : EX s) {args : Array Value} : (Cond.before (.static yX12_number) args s) = true := hE.w 1663 (by decide +kernel) rfl
theorem wd_1664 {s : State} (hE : EX s) {args : Array Value} : (Cond.before (.code yX12_number cX12_number 2 (some .int)) args s) = true := hE.w 1664 (by decide +kernel) rfl
theorem wd_1665 {s : State} (hE : EX s) {args : Array Value} : (Cond.before (.methodLink RX12 81 yX12_by) args s) = true := hE.w 1665 (by decide +kernel) rfl
theorem wd_1667 {s : State} (hE : EX s) {args : Array Value} : (Cond.before (.instanceMethod yX12_by) args s) = true := hE.w 1667 (by decide +kernel) rfl
theorem wd_1668 {s : State} (hE : EX s) {args : Array Value} : (Cond.before (.code yX12_by cX12_by 2 (some .int)) args s) = true := hE.w 1668 (by decide +kernel) rfl
theorem wd_1669 {s : State} (hE : EX s) {args : Array Value} : (Cond.before (.methodLink RX12 107 yX12_into) args s) = true := hE.w 1669 (by decide +kernel) rfl
theorem wd_1671 {s : State} (hE : EX s) {args : Array Value} : (Cond.before (.instanceMethod yX12_into) args s) = true := hE.w 1671 (by decide +kernel) rfl
theorem wd_1672 {s : State} (hE : EX s) {args : Array Value} : (Cond.before (.code yX12_into cX12_into 2 (some .int)) args s) = true := hE.w 1672 (by decide +kernel) rfl
theorem wd_1673 {s : State} (hE : EX s) {args : Array Value} : (Cond.before (.methodLink RX12 269 yX12_isLike) args s) = true := hE.w 1673 (by decide +kernel) rfl
theorem wd_1674 {s : State} (hE : EX s) {args : Array Value} : (Cond.before (.static yX12_isLike) args s) = true := hE.w 1674 (by decide +kernel) rfl
theorem wd_1675 {s : State} (hE : EX s) {args : Array Value} : (Cond.before (.code yX12_isLike cX12_isLike 4 (some .boolean)) args s) = true := hE.w 1675 (by decide +kernel) rfl
theorem wd_1688 {s : State} (hE : EX s) {args : Array Value} : (Cond.before (.methodLink RX12 273 yX12_more) args s) = true := hE.w 1688 (by decide +kernel) rfl
theorem wd_1690 {s : State} (hE : EX s) {args : Array Value} : (Cond.before (.instanceMethod yX12_more) args s) = true := hE.w 1690 (by decide +kernel) rfl
theorem wd_1691 {s : State} (hE : EX s) {args : Array Value} : (Cond.before (.code yX12_more cX12_more 2 (some .int)) args s) = true := hE.w 1691 (by decide +kernel) rfl
theorem wd_1700 {s : State} (hE : EX s) {args : Array Value} : (Cond.before (.methodLink RX12 276 yX12_joins) args s) = true := hE.w 1700 (by decide +kernel) rfl
theorem wd_1702 {s : State} (hE : EX s) {args : Array Value} : (Cond.before (.instanceMethod yX12_joins) args s) = true := hE.w 1702 (by decide +kernel) rfl
theorem wd_1703 {s : State} (hE : EX s) {args : Array Value} : (Cond.before (.code yX12_joins cX12_joins 5 none) args s) = true := hE.w 1703 (by decide +kernel) rfl
theorem wd_1704 {s : State} (hE : EX s) {args : Array Value} : (Cond.before (.methodLink RX12 113 yX12_lays) args s) = true := hE.w 1704 (by decide +kernel) rfl
theorem wd_1705 {s : State} (hE : EX s) {args : Array Value} : (Cond.before (.static yX12_lays) args s) = true := hE.w 1705 (by decide +kernel) rfl
theorem wd_1706 {s : State} (hE : EX s) {args : Array Value} : (Cond.before (.code yX12_lays cX12_lays 3 none) args s) = true := hE.w 1706 (by decide +kernel) rfl
theorem wd_1707 {s : State} (hE : EX s) {args : Array Value} : (Cond.before (.methodLink RX12 121 yX12_last) args s) = true := hE.w 1707 (by decide +kernel) rfl
theorem wd_1708 {s : State} (hE : EX s) {args : Array Value} : (Cond.before (.static yX12_last) args s) = true := hE.w 1708 (by decide +kernel) rfl
theorem wd_1709 {s : State} (hE : EX s) {args : Array Value} : (Cond.before (.code yX12_last cX12_last 1 (some .int)) args s) = true := hE.w 1709 (by decide +kernel) rfl
theorem wd_1714 {s : State} (hE : EX s) {args : Array Value} : (Cond.before (.methodLink RX12 280 yX12_turns) args s) = true := hE.w 1714 (by decide +kernel) rfl
theorem wd_1716 {s : State} (hE : EX s) {args : Array Value} : (Cond.before (.instanceMethod yX12_turns) args s) = true := hE.w 1716 (by decide +kernel) rfl
theorem wd_1717 {s : State} (hE : EX s) {args : Array Value} : (Cond.before (.code yX12_turns cX12_turns 6 none) args s) = true := hE.w 1717 (by decide +kernel) rfl
theorem wd_1722 {s : State} (hE : EX s) {args : Array Value} : (Cond.before (.methodLink RX12 283 yX12_isLoop) args s) = true := hE.w 1722 (by decide +kernel) rfl
theorem wd_1724 {s : State} (hE : EX s) {args : Array Value} : (Cond.before (.instanceMethod yX12_isLoop) args s) = true := hE.w 1724 (by decide +kernel) rfl
theorem wd_1725 {s : State} (hE : EX s) {args : Array Value} : (Cond.before (.code yX12_isLoop cX12_isLoop 2 (some .boolean)) args s) = true := hE.w 1725 (by decide +kernel) rfl
theorem wd_1730 {s : State} (hE : EX s) {args : Array Value} : (Cond.before (.methodLink RX12 286 yX12_coreOf) args s) = true := hE.w 1730 (by decide +kernel) rfl
theorem wd_1732 {s : State} (hE : EX s) {args : Array Value} : (Cond.before (.instanceMethod yX12_coreOf) args s) = true := hE.w 1732 (by decide +kernel) rfl
theorem wd_1733 {s : State} (hE : EX s) {args : Array Value} : (Cond.before (.code yX12_coreOf cX12_coreOf 3 none) args s) = true := hE.w 1733 (by decide +kernel) rfl
theorem wd_1734 {s : State} (hE : EX s) {args : Array Value} : (Cond.before (.methodLink RX12 131 yX12_cores) args s) = true := hE.w 1734 (by decide +kernel) rfl
theorem wd_1736 {s : State} (hE : EX s) {args : Array Value} : (Cond.before (.instanceMethod yX12_cores) args s) = true := hE.w 1736 (by decide +kernel) rfl
theorem wd_1737 {s : State} (hE : EX s) {args : Array Value} : (Cond.before (.code yX12_cores cX12_cores 6 none) args s) = true := hE.w 1737 (by decide +kernel) rfl
theorem wd_1758 {s : State} (hE : EX s) {args : Array Value} : (Cond.before (.methodLink RX12 289 yX12_areAlike) args s) = true := hE.w 1758 (by decide +kernel) rfl
theorem wd_1760 {s : State} (hE : EX s) {args : Array Value} : (Cond.before (.instanceMethod yX12_areAlike) args s) = true := hE.w 1760 (by decide +kernel) rfl
theorem wd_1761 {s : State} (hE : EX s) {args : Array Value} : (Cond.before (.code yX12_areAlike cX12_areAlike 3 (some .boolean)) args s) = true := hE.w 1761 (by decide +kernel) rfl
theorem wd_1778 {s : State} (hE : EX s) {args : Array Value} : (Cond.before (.methodLink RX12 293 yX12_wrongLoop) args s) = true := hE.w 1778 (by decide +kernel) rfl
theorem wd_1780 {s : State} (hE : EX s) {args : Array Value} : (Cond.before (.instanceMethod yX12_wrongLoop) args s) = true := hE.w 1780 (by decide +kernel) rfl
theorem wd_1781 {s : State} (hE : EX s) {args : Array Value} : (Cond.before (.code yX12_wrongLoop cX12_wrongLoop 2 (some .int)) args s) = true := hE.w 1781 (by decide +kernel) rfl
theorem wd_1786 {s : State} (hE : EX s) {args : Array Value} : (Cond.before (.methodLink RX12 299 yX12_orderIn) args s) = true := hE.w 1786 (by decide +kernel) rfl
theorem wd_1788 {s : State} (hE : EX s) {args : Array Value} : (Cond.before (.instanceMethod yX12_orderIn) args s) = true := hE.w 1788 (by decide +kernel) rfl
theorem wd_1789 {s : State} (hE : EX s) {args : Array Value} : (Cond.before (.code yX12_orderIn cX12_orderIn 3 (some .int)) args s) = true := hE.w 1789 (by decide +kernel) rfl
theorem wd_1790 {s : State} (hE : EX s) {args : Array Value} : (Cond.before (.methodLink RX12 296 yX12_common) args s) = true := hE.w 1790 (by decide +kernel) rfl
theorem wd_1791 {s : State} (hE : EX s) {args : Array Value} : (Cond.before (.static yX12_common) args s) = true := hE.w 1791 (by decide +kernel) rfl
theorem wd_1792 {s : State} (hE : EX s) {args : Array Value} : (Cond.before (.code yX12_common cX12_common 2 (some .int)) args s) = true := hE.w 1792 (by decide +kernel) rfl
theorem wd_1797 {s : State} (hE : EX s) {args : Array Value} : (Cond.before (.methodLink RX12 316 yX12_wrongLoops) args s) = true := hE.w 1797 (by decide +kernel) rfl
theorem wd_1799 {s : State} (hE : EX s) {args : Array Value} : (Cond.before (.instanceMethod yX12_wrongLoops) args s) = true := hE.w 1799 (by decide +kernel) rfl
theorem wd_1800 {s : State} (hE : EX s) {args : Array Value} : (Cond.before (.code yX12_wrongLoops cX12_wrongLoops 4 (some .int)) args s) = true := hE.w 1800 (by decide +kernel) rfl
theorem wd_1801 {s : State} (hE : EX s) {args : Array Value} : (Cond.before (.methodLink RX12 319 yX12_areKin) args s) = true := hE.w 1801 (by decide +kernel) rfl
theorem wd_1803 {s : State} (hE : EX s) {args : Array Value} : (Cond.before (.instanceMethod yX12_areKin) args s) = true := hE.w 1803 (by decide +kernel) rfl
theorem wd_1804 {s : State} (hE : EX s) {args : Array Value} : (Cond.before (.code yX12_areKin cX12_areKin 5 (some .boolean)) args s) = true := hE.w 1804 (by decide +kernel) rfl
theorem wd_1805 {s : State} (hE : EX s) {args : Array Value} : (Cond.before (.methodLink RX12 308 yX12_along) args s) = true := hE.w 1805 (by decide +kernel) rfl
theorem wd_1807 {s : State} (hE : EX s) {args : Array Value} : (Cond.before (.instanceMethod yX12_along) args s) = true := hE.w 1807 (by decide +kernel) rfl
theorem wd_1808 {s : State} (hE : EX s) {args : Array Value} : (Cond.before (.code yX12_along cX12_along 11 (some .int)) args s) = true := hE.w 1808 (by decide +kernel) rfl
theorem wd_1809 {s : State} (hE : EX s) {args : Array Value} : (Cond.before (.methodLink RX12 312 yX12_begins) args s) = true := hE.w 1809 (by decide +kernel) rfl
theorem wd_1811 {s : State} (hE : EX s) {args : Array Value} : (Cond.before (.instanceMethod yX12_begins) args s) = true := hE.w 1811 (by decide +kernel) rfl
theorem wd_1812 {s : State} (hE : EX s) {args : Array Value} : (Cond.before (.code yX12_begins cX12_begins 6 none) args s) = true := hE.w 1812 (by decide +kernel) rfl
theorem wd_1829 {s : State} (hE : EX s) {args : Array Value} : (Cond.before (.methodLink RX12 322 yX12_isCentral) args s) = true := hE.w 1829 (by decide +kernel) rfl
theorem wd_1831 {s : State} (hE : EX s) {args : Array Value} : (Cond.before (.instanceMethod yX12_isCentral) args s) = true := hE.w 1831 (by decide +kernel) rfl
theorem wd_1832 {s : State} (hE : EX s) {args : Array Value} : (Cond.before (.code yX12_isCentral cX12_isCentral 7 (some .boolean)) args s) = true := hE.w 1832 (by decide +kernel) rfl
theorem wd_1845 {s : State} (hE : EX s) {args : Array Value} : (Cond.before (.methodLink RX12 329 yX12_rootOf) args s) = true := hE.w 1845 (by decide +kernel) rfl
theorem wd_1847 {s : State} (hE : EX s) {args : Array Value} : (Cond.before (.instanceMethod yX12_rootOf) args s) = true := hE.w 1847 (by decide +kernel) rfl
theorem wd_1848 {s : State} (hE : EX s) {args : Array Value} : (Cond.before (.code yX12_rootOf cX12_rootOf 4 (some .int)) args s) = true := hE.w 1848 (by decide +kernel) rfl
theorem wd_1849 {s : State} (hE : EX s) {args : Array Value} : (Cond.before (.methodLink RX12 325 yX12_isPower) args s) = true := hE.w 1849 (by decide +kernel) rfl
theorem wd_1851 {s : State} (hE : EX s) {args : Array Value} : (Cond.before (.instanceMethod yX12_isPower) args s) = true := hE.w 1851 (by decide +kernel) rfl
theorem wd_1852 {s : State} (hE : EX s) {args : Array Value} : (Cond.before (.code yX12_isPower cX12_isPower 5 (some .boolean)) args s) = true := hE.w 1852 (by decide +kernel) rfl
theorem wd_1861 {s : State} (hE : EX s) {args : Array Value} : (Cond.before (.methodLink RX12 332 yX12_wrongPair) args s) = true := hE.w 1861 (by decide +kernel) rfl
theorem wd_1863 {s : State} (hE : EX s) {args : Array Value} : (Cond.before (.instanceMethod yX12_wrongPair) args s) = true := hE.w 1863 (by decide +kernel) rfl
theorem wd_1864 {s : State} (hE : EX s) {args : Array Value} : (Cond.before (.code yX12_wrongPair cX12_wrongPair 3 (some .int)) args s) = true := hE.w 1864 (by decide +kernel) rfl
theorem wd_1865 {s : State} (hE : EX s) {args : Array Value} : (Cond.before (.methodLink RX12 335 yX12_ways) args s) = true := hE.w 1865 (by decide +kernel) rfl
theorem wd_1867 {s : State} (hE : EX s) {args : Array Value} : (Cond.before (.instanceMethod yX12_ways) args s) = true := hE.w 1867 (by decide +kernel) rfl
theorem wd_1868 {s : State} (hE : EX s) {args : Array Value} : (Cond.before (.code yX12_ways cX12_ways 4 none) args s) = true := hE.w 1868 (by decide +kernel) rfl
theorem wd_1885 {s : State} (hE : EX s) {args : Array Value} : (Cond.before (.methodLink RX12 353 yX12_held0) args s) = true := hE.w 1885 (by decide +kernel) rfl
theorem wd_1887 {s : State} (hE : EX s) {args : Array Value} : (Cond.before (.instanceMethod yX12_held0) args s) = true := hE.w 1887 (by decide +kernel) rfl
theorem wd_1888 {s : State} (hE : EX s) {args : Array Value} : (Cond.before (.code yX12_held0 cX12_held0 5 (some .long)) args s) = true := hE.w 1888 (by decide +kernel) rfl
theorem wd_1889 {s : State} (hE : EX s) {args : Array Value} : (Cond.before (.constantLong RX12 351 (-1)) args s) = true := hE.w 1889 (by decide +kernel) rfl
theorem wd_1890 {s : State} (hE : EX s) {args : Array Value} : (Cond.before (.methodLink RX12 359 yX12_heldFrom) args s) = true := hE.w 1890 (by decide +kernel) rfl
theorem wd_1892 {s : State} (hE : EX s) {args : Array Value} : (Cond.before (.instanceMethod yX12_heldFrom) args s) = true := hE.w 1892 (by decide +kernel) rfl
theorem wd_1893 {s : State} (hE : EX s) {args : Array Value} : (Cond.before (.code yX12_heldFrom cX12_heldFrom 9 (some .long)) args s) = true := hE.w 1893 (by decide +kernel) rfl
theorem wd_1894 {s : State} (hE : EX s) {args : Array Value} : (Cond.before (.methodLink RX12 340 yX12_choices) args s) = true := hE.w 1894 (by decide +kernel) rfl
theorem wd_1896 {s : State} (hE : EX s) {args : Array Value} : (Cond.before (.instanceMethod yX12_choices) args s) = true := hE.w 1896 (by decide +kernel) rfl
theorem wd_1897 {s : State} (hE : EX s) {args : Array Value} : (Cond.before (.code yX12_choices cX12_choices 3 (some .int)) args s) = true := hE.w 1897 (by decide +kernel) rfl
theorem wd_1898 {s : State} (hE : EX s) {args : Array Value} : (Cond.before (.methodLink RX12 347 yX12_held) args s) = true := hE.w 1898 (by decide +kernel) rfl
theorem wd_1899 {s : State} (hE : EX s) {args : Array Value} : (Cond.before (.static yX12_held) args s) = true := hE.w 1899 (by decide +kernel) rfl
theorem wd_1900 {s : State} (hE : EX s) {args : Array Value} : (Cond.before (.code yX12_held cX12_held 2 (some .long)) args s) = true := hE.w 1900 (by decide +kernel) rfl
theorem wd_1901 {s : State} (hE : EX s) {args : Array Value} : (Cond.before (.constantLong RX12 338 (1000000000000)) args s) = true := hE.w 1901 (by decide +kernel) rfl
theorem wd_1902 {s : State} (hE : EX s) {args : Array Value} : (Cond.before (.methodLink RX12 357 yX12_gives_) args s) = true := hE.w 1902 (by decide +kernel) rfl
theorem wd_1904 {s : State} (hE : EX s) {args : Array Value} : (Cond.before (.instanceMethod yX12_gives_) args s) = true := hE.w 1904 (by decide +kernel) rfl
theorem wd_1905 {s : State} (hE : EX s) {args : Array Value} : (Cond.before (.code yX12_gives_ cX12_gives_ 3 (some .long)) args s) = true := hE.w 1905 (by decide +kernel) rfl
theorem wd_1914 {s : State} (hE : EX s) {args : Array Value} : (Cond.before (.methodLink RX12 362 yX12_forgets) args s) = true := hE.w 1914 (by decide +kernel) rfl
theorem wd_1916 {s : State} (hE : EX s) {args : Array Value} : (Cond.before (.instanceMethod yX12_forgets) args s) = true := hE.w 1916 (by decide +kernel) rfl
theorem wd_1917 {s : State} (hE : EX s) {args : Array Value} : (Cond.before (.code yX12_forgets cX12_forgets 4 none) args s) = true := hE.w 1917 (by decide +kernel) rfl
theorem wd_1918 {s : State} (hE : EX s) {args : Array Value} : (Cond.before (.methodLink RX12 343 yX12_homes) args s) = true := hE.w 1918 (by decide +kernel) rfl
theorem wd_1920 {s : State} (hE : EX s) {args : Array Value} : (Cond.before (.instanceMethod yX12_homes) args s) = true := hE.w 1920 (by decide +kernel) rfl
theorem wd_1921 {s : State} (hE : EX s) {args : Array Value} : (Cond.before (.code yX12_homes cX12_homes 8 (some .long)) args s) = true := hE.w 1921 (by decide +kernel) rfl
theorem wd_1926 {s : State} (hE : EX s) {args : Array Value} : (Cond.before (.methodLink RX12 365 yX12_leastAhead) args s) = true := hE.w 1926 (by decide +kernel) rfl
theorem wd_1927 {s : State} (hE : EX s) {args : Array Value} : (Cond.before (.static yX12_leastAhead) args s) = true := hE.w 1927 (by decide +kernel) rfl
theorem wd_1928 {s : State} (hE : EX s) {args : Array Value} : (Cond.before (.code yX12_leastAhead cX12_leastAhead 2 (some .int)) args s) = true := hE.w 1928 (by decide +kernel) rfl
theorem wd_1945 {s : State} (hE : EX s) {args : Array Value} : (Cond.before (.methodLink RX12 371 yX12_writes) args s) = true := hE.w 1945 (by decide +kernel) rfl
theorem wd_1947 {s : State} (hE : EX s) {args : Array Value} : (Cond.before (.instanceMethod yX12_writes) args s) = true := hE.w 1947 (by decide +kernel) rfl
theorem wd_1948 {s : State} (hE : EX s) {args : Array Value} : (Cond.before (.code yX12_writes cX12_writes 2 none) args s) = true := hE.w 1948 (by decide +kernel) rfl
theorem wd_1949 {s : State} (hE : EX s) {args : Array Value} : (Cond.before (.methodLink RX12 374 yX12_writesNumber) args s) = true := hE.w 1949 (by decide +kernel) rfl
theorem wd_1951 {s : State} (hE : EX s) {args : Array Value} : (Cond.before (.instanceMethod yX12_writesNumber) args s) = true := hE.w 1951 (by decide +kernel) rfl
theorem wd_1952 {s : State} (hE : EX s) {args : Array Value} : (Cond.before (.code yX12_writesNumber cX12_writesNumber 2 none) args s) = true := hE.w 1952 (by decide +kernel) rfl
theorem wd_1961 {s : State} (hE : EX s) {args : Array Value} : (Cond.before (.methodLink RX12 377 yX12_common_) args s) = true := hE.w 1961 (by decide +kernel) rfl
theorem wd_1962 {s : State} (hE : EX s) {args : Array Value} : (Cond.before (.static yX12_common_) args s) = true := hE.w 1962 (by decide +kernel) rfl
theorem wd_1963 {s : State} (hE : EX s) {args : Array Value} : (Cond.before (.code yX12_common_ cX12_common_ 10 (some .long)) args s) = true := hE.w 1963 (by decide +kernel) rfl
theorem wd_1964 {s : State} (hE : EX s) {args : Array Value} : (Cond.before (.fieldLink RJ0 9 "java/lang/String" "value" "[B") args s) = true := hE.w 1964 (by decide +kernel) rfl
theorem wd_1965 {s : State} (hE : EX s) {args : Array Value} : (Cond.before (.fieldLink RJ0 15 "java/lang/String" "coder" "B") args s) = true := hE.w 1965 (by decide +kernel) rfl
