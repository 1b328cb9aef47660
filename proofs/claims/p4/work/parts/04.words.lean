theorem ly_X10 {s : State} (hE : EX s) {args : Array Value} : ∀ w ∈ wsX100, w.before args s = true := hE.lay [218, 220, 222, 224] (by decide +kernel) (by decide +kernel)
theorem ly_X7 {s : State} (hE : EX s) {args : Array Value} : ∀ w ∈ wsX70, w.before args s = true := hE.lay [150] (by decide +kernel) (by decide +kernel)
theorem ly_X0 {s : State} (hE : EX s) {args : Array Value} : ∀ w ∈ wsX00, w.before args s = true := hE.lay [294, 296, 298, 300, 302] (by decide +kernel) (by decide +kernel)
theorem ly_X1 {s : State} (hE : EX s) {args : Array Value} : ∀ w ∈ wsX10, w.before args s = true := hE.lay [355] (by decide +kernel) (by decide +kernel)
theorem ly_X3 {s : State} (hE : EX s) {args : Array Value} : ∀ w ∈ wsX30, w.before args s = true := hE.lay [166, 168, 170] (by decide +kernel) (by decide +kernel)
theorem ly_X4 {s : State} (hE : EX s) {args : Array Value} : ∀ w ∈ wsX40, w.before args s = true := hE.lay [313, 315, 317, 319, 321, 323, 325, 327] (by decide +kernel) (by decide +kernel)
theorem ly_X9 {s : State} (hE : EX s) {args : Array Value} : ∀ w ∈ wsX90, w.before args s = true := hE.lay [192, 194, 196, 198, 200, 202] (by decide +kernel) (by decide +kernel)
theorem ly_X5 {s : State} (hE : EX s) {args : Array Value} : ∀ w ∈ wsX50, w.before args s = true := hE.lay [237, 239, 241, 243, 245, 247, 249, 251, 253, 255] (by decide +kernel) (by decide +kernel)
theorem ly_X6 {s : State} (hE : EX s) {args : Array Value} : ∀ w ∈ wsX60, w.before args s = true := hE.lay [341, 343, 345] (by decide +kernel) (by decide +kernel)
theorem ly_X8 {s : State} (hE : EX s) {args : Array Value} : ∀ w ∈ wsX80, w.before args s = true := hE.lay [266, 268] (by decide +kernel) (by decide +kernel)
theorem ly_X11 {s : State} (hE : EX s) {args : Array Value} : ∀ w ∈ wsX110, w.before args s = true := hE.lay [378, 380, 382, 384, 386, 388, 390, 392, 394, 396, 398, 400, 402, 404, 406, 408, 410, 412, 414] (by decide +kernel) (by decide +kernel)
theorem wd_1 {s : State} (hE : EX s) {args : Array Value} : (Cond.before (.selects RX11 yX11_fail yX11_fail) args s) = true := hE.w 1 (by decide +kernel) rfl
theorem wd_2 {s : State} (hE : EX s) {args : Array Value} : (Cond.before (.selects RX9 yX9_byteAt yX9_byteAt) args s) = true := hE.w 2 (by decide +kernel) rfl
theorem wd_3 {s : State} (hE : EX s) {args : Array Value} : (Cond.before (.selects RX9 yX9_endOfToken yX9_endOfToken) args s) = true := hE.w 3 (by decide +kernel) rfl
theorem wd_8 {s : State} (hE : EX s) {args : Array Value} : (Cond.before (.selects RX5 yX5_kind yX5_kind) args s) = true := hE.w 8 (by decide +kernel) rfl
theorem wd_10 {s : State} (hE : EX s) {args : Array Value} : (Cond.before (.selects RX5 yX5_passes yX5_passes) args s) = true := hE.w 10 (by decide +kernel) rfl
theorem wd_11 {s : State} (hE : EX s) {args : Array Value} : (Cond.before (.selects RX5 yX5_value yX5_value) args s) = true := hE.w 11 (by decide +kernel) rfl
theorem wd_12 {s : State} (hE : EX s) {args : Array Value} : (Cond.before (.selects RX5 yX5_stands yX5_stands) args s) = true := hE.w 12 (by decide +kernel) rfl
theorem wd_13 {s : State} (hE : EX s) {args : Array Value} : (Cond.before (.selects RX5 yX5_endsLine yX5_endsLine) args s) = true := hE.w 13 (by decide +kernel) rfl
theorem wd_14 {s : State} (hE : EX s) {args : Array Value} : (Cond.before (.selects RX7 yX7_put yX7_put) args s) = true := hE.w 14 (by decide +kernel) rfl
theorem wd_16 {s : State} (hE : EX s) {args : Array Value} : (Cond.before (.selects RX5 yX5_readPlace yX5_readPlace) args s) = true := hE.w 16 (by decide +kernel) rfl
theorem wd_17 {s : State} (hE : EX s) {args : Array Value} : (Cond.before (.selects RX5 yX5_readIndex yX5_readIndex) args s) = true := hE.w 17 (by decide +kernel) rfl
theorem wd_19 {s : State} (hE : EX s) {args : Array Value} : (Cond.before (.selects RX5 yX5_readNumber yX5_readNumber) args s) = true := hE.w 19 (by decide +kernel) rfl
theorem wd_20 {s : State} (hE : EX s) {args : Array Value} : (Cond.before (.selects RX5 yX5_isSign yX5_isSign) args s) = true := hE.w 20 (by decide +kernel) rfl
theorem wd_21 {s : State} (hE : EX s) {args : Array Value} : (Cond.before (.selects RX5 yX5_readStep yX5_readStep) args s) = true := hE.w 21 (by decide +kernel) rfl
theorem wd_22 {s : State} (hE : EX s) {args : Array Value} : (Cond.before (.selects RX3 yX3_slot yX3_slot) args s) = true := hE.w 22 (by decide +kernel) rfl
theorem wd_23 {s : State} (hE : EX s) {args : Array Value} : (Cond.before (.selects RX11 yX11_answer yX11_answer) args s) = true := hE.w 23 (by decide +kernel) rfl
theorem wd_24 {s : State} (hE : EX s) {args : Array Value} : (Cond.before (.selects RX6 yX6_join yX6_join) args s) = true := hE.w 24 (by decide +kernel) rfl
theorem wd_25 {s : State} (hE : EX s) {args : Array Value} : (Cond.before (.selects RX6 yX6_setLeast yX6_setLeast) args s) = true := hE.w 25 (by decide +kernel) rfl
theorem wd_26 {s : State} (hE : EX s) {args : Array Value} : (Cond.before (.selects RX6 yX6_leastOf yX6_leastOf) args s) = true := hE.w 26 (by decide +kernel) rfl
theorem wd_27 {s : State} (hE : EX s) {args : Array Value} : (Cond.before (.selects RX7 yX7_cell yX7_cell) args s) = true := hE.w 27 (by decide +kernel) rfl
theorem wd_28 {s : State} (hE : EX s) {args : Array Value} : (Cond.before (.selects RX11 yX11_keep yX11_keep) args s) = true := hE.w 28 (by decide +kernel) rfl
theorem wd_29 {s : State} (hE : EX s) {args : Array Value} : (Cond.before (.selects RX11 yX11_readTwo yX11_readTwo) args s) = true := hE.w 29 (by decide +kernel) rfl
theorem wd_30 {s : State} (hE : EX s) {args : Array Value} : (Cond.before (.selects RX11 yX11_cannotGrowFromLoop yX11_cannotGrowFromLoop) args s) = true := hE.w 30 (by decide +kernel) rfl
theorem wd_31 {s : State} (hE : EX s) {args : Array Value} : (Cond.before (.selects RX11 yX11_readLoop yX11_readLoop) args s) = true := hE.w 31 (by decide +kernel) rfl
theorem wd_32 {s : State} (hE : EX s) {args : Array Value} : (Cond.before (.selects RX1 yX1_fillLoops yX1_fillLoops) args s) = true := hE.w 32 (by decide +kernel) rfl
theorem wd_33 {s : State} (hE : EX s) {args : Array Value} : (Cond.before (.selects RX1 yX1_setWays yX1_setWays) args s) = true := hE.w 33 (by decide +kernel) rfl
theorem wd_34 {s : State} (hE : EX s) {args : Array Value} : (Cond.before (.selects RX1 yX1_waysFrom yX1_waysFrom) args s) = true := hE.w 34 (by decide +kernel) rfl
theorem wd_35 {s : State} (hE : EX s) {args : Array Value} : (Cond.before (.selects RX1 yX1_waysBehind yX1_waysBehind) args s) = true := hE.w 35 (by decide +kernel) rfl
theorem wd_36 {s : State} (hE : EX s) {args : Array Value} : (Cond.before (.selects RX1 yX1_findStep yX1_findStep) args s) = true := hE.w 36 (by decide +kernel) rfl
theorem wd_37 {s : State} (hE : EX s) {args : Array Value} : (Cond.before (.selects RX11 yX11_isForm yX11_isForm) args s) = true := hE.w 37 (by decide +kernel) rfl
theorem wd_38 {s : State} (hE : EX s) {args : Array Value} : (Cond.before (.selects RX11 yX11_readCore yX11_readCore) args s) = true := hE.w 38 (by decide +kernel) rfl
theorem wd_39 {s : State} (hE : EX s) {args : Array Value} : (Cond.before (.selects RX11 yX11_readTwoLoops yX11_readTwoLoops) args s) = true := hE.w 39 (by decide +kernel) rfl
theorem wd_40 {s : State} (hE : EX s) {args : Array Value} : (Cond.before (.selects RX4 yX4_spread yX4_spread) args s) = true := hE.w 40 (by decide +kernel) rfl
theorem wd_41 {s : State} (hE : EX s) {args : Array Value} : (Cond.before (.selects RX4 yX4_setFar yX4_setFar) args s) = true := hE.w 41 (by decide +kernel) rfl
theorem wd_42 {s : State} (hE : EX s) {args : Array Value} : (Cond.before (.selects RX4 yX4_farOf yX4_farOf) args s) = true := hE.w 42 (by decide +kernel) rfl
theorem wd_43 {s : State} (hE : EX s) {args : Array Value} : (Cond.before (.selects RX4 yX4_reachesNumber yX4_reachesNumber) args s) = true := hE.w 43 (by decide +kernel) rfl
theorem wd_44 {s : State} (hE : EX s) {args : Array Value} : (Cond.before (.selects RX4 yX4_reachesSteps yX4_reachesSteps) args s) = true := hE.w 44 (by decide +kernel) rfl
theorem wd_45 {s : State} (hE : EX s) {args : Array Value} : (Cond.before (.selects RX4 yX4_findNumber yX4_findNumber) args s) = true := hE.w 45 (by decide +kernel) rfl
theorem wd_46 {s : State} (hE : EX s) {args : Array Value} : (Cond.before (.selects RX0 yX0_isPower yX0_isPower) args s) = true := hE.w 46 (by decide +kernel) rfl
theorem wd_47 {s : State} (hE : EX s) {args : Array Value} : (Cond.before (.selects RX0 yX0_repeatFirst yX0_repeatFirst) args s) = true := hE.w 47 (by decide +kernel) rfl
theorem wd_48 {s : State} (hE : EX s) {args : Array Value} : (Cond.before (.selects RX11 yX11_readWay yX11_readWay) args s) = true := hE.w 48 (by decide +kernel) rfl
theorem wd_49 {s : State} (hE : EX s) {args : Array Value} : (Cond.before (.selects RX11 yX11_answerLong yX11_answerLong) args s) = true := hE.w 49 (by decide +kernel) rfl
theorem wd_50 {s : State} (hE : EX s) {args : Array Value} : (Cond.before (.selects RX8 yX8_put yX8_put) args s) = true := hE.w 50 (by decide +kernel) rfl
theorem wd_51 {s : State} (hE : EX s) {args : Array Value} : (Cond.before (.selects RX8 yX8_putNumber yX8_putNumber) args s) = true := hE.w 51 (by decide +kernel) rfl
theorem wd_52 {s : State} (hE : EX s) {args : Array Value} : (Cond.before (.selects RX6 yX6_addPart yX6_addPart) args s) = true := hE.w 52 (by decide +kernel) rfl
theorem wd_115 {s : State} (hE : EX s) {args : Array Value} : (Cond.before (.initialized RX11) args s) = true := hE.w 115 (by decide +kernel) rfl
theorem wd_116 {s : State} (hE : EX s) {args : Array Value} : (Cond.before (.initialized RX7) args s) = true := hE.w 116 (by decide +kernel) rfl
theorem wd_117 {s : State} (hE : EX s) {args : Array Value} : (Cond.before (.initialized RX3) args s) = true := hE.w 117 (by decide +kernel) rfl
theorem wd_118 {s : State} (hE : EX s) {args : Array Value} : (Cond.before (.initialized RX5) args s) = true := hE.w 118 (by decide +kernel) rfl
theorem wd_119 {s : State} (hE : EX s) {args : Array Value} : (Cond.before (.initialized RX9) args s) = true := hE.w 119 (by decide +kernel) rfl
theorem wd_120 {s : State} (hE : EX s) {args : Array Value} : (Cond.before (.initialized RX10) args s) = true := hE.w 120 (by decide +kernel) rfl
theorem wd_121 {s : State} (hE : EX s) {args : Array Value} : (Cond.before (.initialized RX8) args s) = true := hE.w 121 (by decide +kernel) rfl
theorem wd_122 {s : State} (hE : EX s) {args : Array Value} : (Cond.before (.initialized RX4) args s) = true := hE.w 122 (by decide +kernel) rfl
theorem wd_123 {s : State} (hE : EX s) {args : Array Value} : (Cond.before (.initialized RX0) args s) = true := hE.w 123 (by decide +kernel) rfl
theorem wd_124 {s : State} (hE : EX s) {args : Array Value} : (Cond.before (.initialized RX6) args s) = true := hE.w 124 (by decide +kernel) rfl
theorem wd_125 {s : State} (hE : EX s) {args : Array Value} : (Cond.before (.initialized RX1) args s) = true := hE.w 125 (by decide +kernel) rfl
theorem wd_127 {s : State} (hE : EX s) {args : Array Value} : (Cond.before (.initialized RJ7) args s) = true := hE.w 127 (by decide +kernel) rfl
theorem wd_128 {s : State} (hE : EX s) {args : Array Value} : (Cond.before (.initialized "java/lang/Math") args s) = true := hE.w 128 (by decide +kernel) rfl
theorem wd_133 {s : State} (hE : EX s) {args : Array Value} : (Cond.before (.initialized "java/lang/System") args s) = true := hE.w 133 (by decide +kernel) rfl
theorem wd_134 {s : State} (hE : EX s) {args : Array Value} : (Cond.before (.initialized RX2) args s) = true := hE.w 134 (by decide +kernel) rfl
theorem wd_149 {s : State} (hE : EX s) {args : Array Value} : (Cond.before (.fieldLink RX7 11 "GluedWords$Store" "cells" "[I") args s) = true := hE.w 149 (by decide +kernel) rfl
theorem wd_163 {s : State} (hE : EX s) {args : Array Value} : (Cond.before (.fieldLink RX3 11 "GluedWords$History" "ring" "[LGluedWords$Store;") args s) = true := hE.w 163 (by decide +kernel) rfl
theorem wd_164 {s : State} (hE : EX s) {args : Array Value} : (Cond.before (.fieldLink RX3 17 "GluedWords$History" "first" "I") args s) = true := hE.w 164 (by decide +kernel) rfl
theorem wd_165 {s : State} (hE : EX s) {args : Array Value} : (Cond.before (.fieldLink RX3 21 "GluedWords$History" "count" "I") args s) = true := hE.w 165 (by decide +kernel) rfl
theorem wd_186 {s : State} (hE : EX s) {args : Array Value} : (Cond.before (.fieldLink RX9 9 "GluedWords$Tokens" "kinds" "[I") args s) = true := hE.w 186 (by decide +kernel) rfl
theorem wd_187 {s : State} (hE : EX s) {args : Array Value} : (Cond.before (.fieldLink RX9 15 "GluedWords$Tokens" "places" "[I") args s) = true := hE.w 187 (by decide +kernel) rfl
theorem wd_188 {s : State} (hE : EX s) {args : Array Value} : (Cond.before (.fieldLink RX9 18 "GluedWords$Tokens" "values" "[I") args s) = true := hE.w 188 (by decide +kernel) rfl
theorem wd_189 {s : State} (hE : EX s) {args : Array Value} : (Cond.before (.fieldLink RX9 21 "GluedWords$Tokens" "count" "I") args s) = true := hE.w 189 (by decide +kernel) rfl
theorem wd_190 {s : State} (hE : EX s) {args : Array Value} : (Cond.before (.fieldLink RX9 25 "GluedWords$Tokens" "text" "[B") args s) = true := hE.w 190 (by decide +kernel) rfl
theorem wd_191 {s : State} (hE : EX s) {args : Array Value} : (Cond.before (.fieldLink RX9 29 "GluedWords$Tokens" "size" "I") args s) = true := hE.w 191 (by decide +kernel) rfl
theorem wd_214 {s : State} (hE : EX s) {args : Array Value} : (Cond.before (.fieldLink RX10 9 "GluedWords$Walk" "numbers" "[I") args s) = true := hE.w 214 (by decide +kernel) rfl
theorem wd_215 {s : State} (hE : EX s) {args : Array Value} : (Cond.before (.fieldLink RX10 15 "GluedWords$Walk" "marches" "[I") args s) = true := hE.w 215 (by decide +kernel) rfl
theorem wd_216 {s : State} (hE : EX s) {args : Array Value} : (Cond.before (.fieldLink RX10 18 "GluedWords$Walk" "beginning" "I") args s) = true := hE.w 216 (by decide +kernel) rfl
theorem wd_217 {s : State} (hE : EX s) {args : Array Value} : (Cond.before (.fieldLink RX10 22 "GluedWords$Walk" "count" "I") args s) = true := hE.w 217 (by decide +kernel) rfl
theorem wd_227 {s : State} (hE : EX s) {args : Array Value} : (Cond.before (.fieldLink RX5 12 "GluedWords$Reader" "tokens" "LGluedWords$Tokens;") args s) = true := hE.w 227 (by decide +kernel) rfl
theorem wd_228 {s : State} (hE : EX s) {args : Array Value} : (Cond.before (.fieldLink RX5 21 "GluedWords$Reader" "draft" "LGluedWords$Store;") args s) = true := hE.w 228 (by decide +kernel) rfl
theorem wd_229 {s : State} (hE : EX s) {args : Array Value} : (Cond.before (.fieldLink RX5 28 "GluedWords$Reader" "walk" "LGluedWords$Walk;") args s) = true := hE.w 229 (by decide +kernel) rfl
theorem wd_230 {s : State} (hE : EX s) {args : Array Value} : (Cond.before (.fieldLink RX5 32 "GluedWords$Reader" "hasRead" "Z") args s) = true := hE.w 230 (by decide +kernel) rfl
theorem wd_231 {s : State} (hE : EX s) {args : Array Value} : (Cond.before (.fieldLink RX5 36 "GluedWords$Reader" "at" "I") args s) = true := hE.w 231 (by decide +kernel) rfl
theorem wd_232 {s : State} (hE : EX s) {args : Array Value} : (Cond.before (.fieldLink RX5 40 "GluedWords$Reader" "here" "I") args s) = true := hE.w 232 (by decide +kernel) rfl
theorem wd_233 {s : State} (hE : EX s) {args : Array Value} : (Cond.before (.fieldLink RX5 43 "GluedWords$Reader" "lines" "I") args s) = true := hE.w 233 (by decide +kernel) rfl
theorem wd_234 {s : State} (hE : EX s) {args : Array Value} : (Cond.before (.fieldLink RX5 46 "GluedWords$Reader" "faultKind" "I") args s) = true := hE.w 234 (by decide +kernel) rfl
theorem wd_235 {s : State} (hE : EX s) {args : Array Value} : (Cond.before (.fieldLink RX5 49 "GluedWords$Reader" "faultPlace" "I") args s) = true := hE.w 235 (by decide +kernel) rfl
theorem wd_236 {s : State} (hE : EX s) {args : Array Value} : (Cond.before (.fieldLink RX5 52 "GluedWords$Reader" "faultLine" "I") args s) = true := hE.w 236 (by decide +kernel) rfl
theorem wd_264 {s : State} (hE : EX s) {args : Array Value} : (Cond.before (.fieldLink RX8 9 "GluedWords$Teller" "bytes" "[B") args s) = true := hE.w 264 (by decide +kernel) rfl
theorem wd_265 {s : State} (hE : EX s) {args : Array Value} : (Cond.before (.fieldLink RX8 15 "GluedWords$Teller" "count" "I") args s) = true := hE.w 265 (by decide +kernel) rfl
theorem wd_289 {s : State} (hE : EX s) {args : Array Value} : (Cond.before (.fieldLink RX0 9 "GluedWords$Carrier" "fromIndices" "[I") args s) = true := hE.w 289 (by decide +kernel) rfl
theorem wd_290 {s : State} (hE : EX s) {args : Array Value} : (Cond.before (.fieldLink RX0 15 "GluedWords$Carrier" "toIndices" "[I") args s) = true := hE.w 290 (by decide +kernel) rfl
theorem wd_291 {s : State} (hE : EX s) {args : Array Value} : (Cond.before (.fieldLink RX0 18 "GluedWords$Carrier" "orders" "[I") args s) = true := hE.w 291 (by decide +kernel) rfl
theorem wd_292 {s : State} (hE : EX s) {args : Array Value} : (Cond.before (.fieldLink RX0 24 "GluedWords$Carrier" "trial" "LGluedWords$Walk;") args s) = true := hE.w 292 (by decide +kernel) rfl
theorem wd_293 {s : State} (hE : EX s) {args : Array Value} : (Cond.before (.fieldLink RX0 28 "GluedWords$Carrier" "target" "LGluedWords$Walk;") args s) = true := hE.w 293 (by decide +kernel) rfl
theorem wd_305 {s : State} (hE : EX s) {args : Array Value} : (Cond.before (.fieldLink RX4 12 "GluedWords$Kinship" "first" "LGluedWords$Walk;") args s) = true := hE.w 305 (by decide +kernel) rfl
theorem wd_306 {s : State} (hE : EX s) {args : Array Value} : (Cond.before (.fieldLink RX4 18 "GluedWords$Kinship" "second" "LGluedWords$Walk;") args s) = true := hE.w 306 (by decide +kernel) rfl
theorem wd_307 {s : State} (hE : EX s) {args : Array Value} : (Cond.before (.fieldLink RX4 21 "GluedWords$Kinship" "begun" "LGluedWords$Walk;") args s) = true := hE.w 307 (by decide +kernel) rfl
theorem wd_308 {s : State} (hE : EX s) {args : Array Value} : (Cond.before (.fieldLink RX4 24 "GluedWords$Kinship" "spare" "LGluedWords$Walk;") args s) = true := hE.w 308 (by decide +kernel) rfl
theorem wd_309 {s : State} (hE : EX s) {args : Array Value} : (Cond.before (.fieldLink RX4 30 "GluedWords$Kinship" "carrier" "LGluedWords$Carrier;") args s) = true := hE.w 309 (by decide +kernel) rfl
theorem wd_310 {s : State} (hE : EX s) {args : Array Value} : (Cond.before (.fieldLink RX4 34 "GluedWords$Kinship" "far" "[I") args s) = true := hE.w 310 (by decide +kernel) rfl
theorem wd_311 {s : State} (hE : EX s) {args : Array Value} : (Cond.before (.fieldLink RX4 38 "GluedWords$Kinship" "behind" "I") args s) = true := hE.w 311 (by decide +kernel) rfl
theorem wd_312 {s : State} (hE : EX s) {args : Array Value} : (Cond.before (.fieldLink RX4 42 "GluedWords$Kinship" "taken" "I") args s) = true := hE.w 312 (by decide +kernel) rfl
theorem wd_338 {s : State} (hE : EX s) {args : Array Value} : (Cond.before (.fieldLink RX6 9 "GluedWords$Shape" "leasts" "[I") args s) = true := hE.w 338 (by decide +kernel) rfl
theorem wd_339 {s : State} (hE : EX s) {args : Array Value} : (Cond.before (.fieldLink RX6 15 "GluedWords$Shape" "over" "J") args s) = true := hE.w 339 (by decide +kernel) rfl
theorem wd_340 {s : State} (hE : EX s) {args : Array Value} : (Cond.before (.fieldLink RX6 19 "GluedWords$Shape" "under" "J") args s) = true := hE.w 340 (by decide +kernel) rfl
theorem wd_354 {s : State} (hE : EX s) {args : Array Value} : (Cond.before (.fieldLink RX1 9 "GluedWords$Counts" "ways" "[J") args s) = true := hE.w 354 (by decide +kernel) rfl
theorem wd_359 {s : State} (hE : EX s) {args : Array Value} : (Cond.before (.fieldLink RX11 12 "GluedWords" "now" "LGluedWords$Store;") args s) = true := hE.w 359 (by decide +kernel) rfl
theorem wd_360 {s : State} (hE : EX s) {args : Array Value} : (Cond.before (.fieldLink RX11 19 "GluedWords" "history" "LGluedWords$History;") args s) = true := hE.w 360 (by decide +kernel) rfl
theorem wd_361 {s : State} (hE : EX s) {args : Array Value} : (Cond.before (.fieldLink RX11 23 "GluedWords" "markedStores" "[LGluedWords$Store;") args s) = true := hE.w 361 (by decide +kernel) rfl
theorem wd_362 {s : State} (hE : EX s) {args : Array Value} : (Cond.before (.fieldLink RX11 27 "GluedWords" "markedHistories" "[LGluedWords$History;") args s) = true := hE.w 362 (by decide +kernel) rfl
theorem wd_363 {s : State} (hE : EX s) {args : Array Value} : (Cond.before (.fieldLink RX11 31 "GluedWords" "markCount" "I") args s) = true := hE.w 363 (by decide +kernel) rfl
theorem wd_364 {s : State} (hE : EX s) {args : Array Value} : (Cond.before (.fieldLink RX11 35 "GluedWords" "latest" "I") args s) = true := hE.w 364 (by decide +kernel) rfl
theorem wd_365 {s : State} (hE : EX s) {args : Array Value} : (Cond.before (.fieldLink RX11 38 "GluedWords" "tape" "[B") args s) = true := hE.w 365 (by decide +kernel) rfl
theorem wd_366 {s : State} (hE : EX s) {args : Array Value} : (Cond.before (.fieldLink RX11 42 "GluedWords" "tapeSize" "I") args s) = true := hE.w 366 (by decide +kernel) rfl
theorem wd_367 {s : State} (hE : EX s) {args : Array Value} : (Cond.before (.fieldLink RX11 48 "GluedWords" "reader" "LGluedWords$Reader;") args s) = true := hE.w 367 (by decide +kernel) rfl
theorem wd_368 {s : State} (hE : EX s) {args : Array Value} : (Cond.before (.fieldLink RX11 55 "GluedWords" "teller" "LGluedWords$Teller;") args s) = true := hE.w 368 (by decide +kernel) rfl
theorem wd_369 {s : State} (hE : EX s) {args : Array Value} : (Cond.before (.fieldLink RX11 62 "GluedWords" "one" "LGluedWords$Walk;") args s) = true := hE.w 369 (by decide +kernel) rfl
theorem wd_370 {s : State} (hE : EX s) {args : Array Value} : (Cond.before (.fieldLink RX11 66 "GluedWords" "two" "LGluedWords$Walk;") args s) = true := hE.w 370 (by decide +kernel) rfl
theorem wd_371 {s : State} (hE : EX s) {args : Array Value} : (Cond.before (.fieldLink RX11 69 "GluedWords" "row" "LGluedWords$Walk;") args s) = true := hE.w 371 (by decide +kernel) rfl
theorem wd_372 {s : State} (hE : EX s) {args : Array Value} : (Cond.before (.fieldLink RX11 72 "GluedWords" "otherRow" "LGluedWords$Walk;") args s) = true := hE.w 372 (by decide +kernel) rfl
theorem wd_373 {s : State} (hE : EX s) {args : Array Value} : (Cond.before (.fieldLink RX11 75 "GluedWords" "spare" "LGluedWords$Walk;") args s) = true := hE.w 373 (by decide +kernel) rfl
theorem wd_374 {s : State} (hE : EX s) {args : Array Value} : (Cond.before (.fieldLink RX11 81 "GluedWords" "kinship" "LGluedWords$Kinship;") args s) = true := hE.w 374 (by decide +kernel) rfl
theorem wd_375 {s : State} (hE : EX s) {args : Array Value} : (Cond.before (.fieldLink RX11 88 "GluedWords" "carrier" "LGluedWords$Carrier;") args s) = true := hE.w 375 (by decide +kernel) rfl
theorem wd_376 {s : State} (hE : EX s) {args : Array Value} : (Cond.before (.fieldLink RX11 95 "GluedWords" "shape" "LGluedWords$Shape;") args s) = true := hE.w 376 (by decide +kernel) rfl
theorem wd_377 {s : State} (hE : EX s) {args : Array Value} : (Cond.before (.fieldLink RX11 102 "GluedWords" "counts" "LGluedWords$Counts;") args s) = true := hE.w 377 (by decide +kernel) rfl
theorem wd_433 {s : State} (hE : EX s) {args : Array Value} : (Cond.before (.methodLink RX11 110 yX11_fail) args s) = true := hE.w 433 (by decide +kernel) rfl
theorem wd_435 {s : State} (hE : EX s) {args : Array Value} : (Cond.before (.instanceMethod yX11_fail) args s) = true := hE.w 435 (by decide +kernel) rfl
theorem wd_436 {s : State} (hE : EX s) {args : Array Value} : (Cond.before (.code yX11_fail cX11_fail 2 (some .int)) args s) = true := hE.w 436 (by decide +kernel) rfl
theorem wd_441 {s : State} (hE : EX s) {args : Array Value} : (Cond.before (.methodLink RX5 55 yX7_clear) args s) = true := hE.w 441 (by decide +kernel) rfl
theorem wd_442 {s : State} (hE : EX s) {args : Array Value} : (Cond.before (.instanceMethod yX7_clear) args s) = true := hE.w 442 (by decide +kernel) rfl
theorem wd_443 {s : State} (hE : EX s) {args : Array Value} : (Cond.before (.selects RX7 yX7_clear yX7_clear) args s) = true := hE.w 443 (by decide +kernel) rfl
theorem wd_444 {s : State} (hE : EX s) {args : Array Value} : (Cond.before (.code yX7_clear cX7_clear 1 none) args s) = true := hE.w 444 (by decide +kernel) rfl
theorem wd_445 {s : State} (hE : EX s) {args : Array Value} : (Cond.before (.methodLink RX7 15 yJ7_fill_53178) args s) = true := hE.w 445 (by decide +kernel) rfl
theorem wd_446 {s : State} (hE : EX s) {args : Array Value} : (Cond.before (.static yJ7_fill_53178) args s) = true := hE.w 446 (by decide +kernel) rfl
theorem wd_447 {s : State} (hE : EX s) {args : Array Value} : (Cond.before (.code yJ7_fill_53178 cJ7_fill_53178 4 none) args s) = true := hE.w 447 (by decide +kernel) rfl
theorem wd_452 {s : State} (hE : EX s) {args : Array Value} : (Cond.before (.methodLink RX9 32 Lib.Math.min.name) args s) = true := hE.w 452 (by decide +kernel) rfl
theorem wd_453 {s : State} (hE : EX s) {args : Array Value} : (Cond.before (.static Lib.Math.min.name) args s) = true := hE.w 453 (by decide +kernel) rfl
theorem wd_454 {s : State} (hE : EX s) {args : Array Value} : (Cond.before (.code Lib.Math.min.name Lib.Math.min.code 2 (some .int)) args s) = true := hE.w 454 (by decide +kernel) rfl
theorem wd_455 {s : State} (hE : EX s) {args : Array Value} : (Cond.before (.methodLink RX9 38 yX9_byteAt) args s) = true := hE.w 455 (by decide +kernel) rfl
theorem wd_457 {s : State} (hE : EX s) {args : Array Value} : (Cond.before (.instanceMethod yX9_byteAt) args s) = true := hE.w 457 (by decide +kernel) rfl
theorem wd_458 {s : State} (hE : EX s) {args : Array Value} : (Cond.before (.code yX9_byteAt cX9_byteAt 2 (some .int)) args s) = true := hE.w 458 (by decide +kernel) rfl
theorem wd_459 {s : State} (hE : EX s) {args : Array Value} : (Cond.before (.methodLink RX9 42 yX9_endOfToken) args s) = true := hE.w 459 (by decide +kernel) rfl
theorem wd_461 {s : State} (hE : EX s) {args : Array Value} : (Cond.before (.instanceMethod yX9_endOfToken) args s) = true := hE.w 461 (by decide +kernel) rfl
theorem wd_462 {s : State} (hE : EX s) {args : Array Value} : (Cond.before (.code yX9_endOfToken cX9_endOfToken 3 (some .int)) args s) = true := hE.w 462 (by decide +kernel) rfl
theorem wd_463 {s : State} (hE : EX s) {args : Array Value} : (Cond.before (.methodLink RX9 52 yX9_isLetter) args s) = true := hE.w 463 (by decide +kernel) rfl
theorem wd_464 {s : State} (hE : EX s) {args : Array Value} : (Cond.before (.static yX9_isLetter) args s) = true := hE.w 464 (by decide +kernel) rfl
theorem wd_465 {s : State} (hE : EX s) {args : Array Value} : (Cond.before (.code yX9_isLetter cX9_isLetter 1 (some .boolean)) args s) = true := hE.w 465 (by decide +kernel) rfl
theorem wd_466 {s : State} (hE : EX s) {args : Array Value} : (Cond.before (.methodLink RX9 56 yX9_isDigit) args s) = true := hE.w 466 (by decide +kernel) rfl
theorem wd_467 {s : State} (hE : EX s) {args : Array Value} : (Cond.before (.static yX9_isDigit) args s) = true := hE.w 467 (by decide +kernel) rfl
theorem wd_468 {s : State} (hE : EX s) {args : Array Value} : (Cond.before (.code yX9_isDigit cX9_isDigit 1 (some .boolean)) args s) = true := hE.w 468 (by decide +kernel) rfl
theorem wd_539 {s : State} (hE : EX s) {args : Array Value} : (Cond.before (.methodLink RX9 49 Lib.Math.max.name) args s) = true := hE.w 539 (by decide +kernel) rfl
theorem wd_540 {s : State} (hE : EX s) {args : Array Value} : (Cond.before (.static Lib.Math.max.name) args s) = true := hE.w 540 (by decide +kernel) rfl
theorem wd_541 {s : State} (hE : EX s) {args : Array Value} : (Cond.before (.code Lib.Math.max.name Lib.Math.max.code 2 (some .int)) args s) = true := hE.w 541 (by decide +kernel) rfl
theorem wd_542 {s : State} (hE : EX s) {args : Array Value} : (Cond.before (.methodLink RX5 62 yX5_kind) args s) = true := hE.w 542 (by decide +kernel) rfl
theorem wd_544 {s : State} (hE : EX s) {args : Array Value} : (Cond.before (.instanceMethod yX5_kind) args s) = true := hE.w 544 (by decide +kernel) rfl
theorem wd_545 {s : State} (hE : EX s) {args : Array Value} : (Cond.before (.code yX5_kind cX5_kind 1 (some .int)) args s) = true := hE.w 545 (by decide +kernel) rfl
theorem wd_546 {s : State} (hE : EX s) {args : Array Value} : (Cond.before (.methodLink RX5 75 yX9_kindAt) args s) = true := hE.w 546 (by decide +kernel) rfl
theorem wd_547 {s : State} (hE : EX s) {args : Array Value} : (Cond.before (.instanceMethod yX9_kindAt) args s) = true := hE.w 547 (by decide +kernel) rfl
theorem wd_548 {s : State} (hE : EX s) {args : Array Value} : (Cond.before (.selects RX9 yX9_kindAt yX9_kindAt) args s) = true := hE.w 548 (by decide +kernel) rfl
theorem wd_549 {s : State} (hE : EX s) {args : Array Value} : (Cond.before (.code yX9_kindAt cX9_kindAt 2 (some .int)) args s) = true := hE.w 549 (by decide +kernel) rfl
theorem wd_554 {s : State} (hE : EX s) {args : Array Value} : (Cond.before (.methodLink RX5 93 yX7_vertices) args s) = true := hE.w 554 (by decide +kernel) rfl
theorem wd_555 {s : State} (hE : EX s) {args : Array Value} : (Cond.before (.instanceMethod yX7_vertices) args s) = true := hE.w 555 (by decide +kernel) rfl
theorem wd_556 {s : State} (hE : EX s) {args : Array Value} : (Cond.before (.selects RX7 yX7_vertices yX7_vertices) args s) = true := hE.w 556 (by decide +kernel) rfl
theorem wd_557 {s : State} (hE : EX s) {args : Array Value} : (Cond.before (.code yX7_vertices cX7_vertices 1 (some .int)) args s) = true := hE.w 557 (by decide +kernel) rfl
theorem wd_558 {s : State} (hE : EX s) {args : Array Value} : (Cond.before (.methodLink RX5 85 yX5_passes) args s) = true := hE.w 558 (by decide +kernel) rfl
theorem wd_560 {s : State} (hE : EX s) {args : Array Value} : (Cond.before (.instanceMethod yX5_passes) args s) = true := hE.w 560 (by decide +kernel) rfl
theorem wd_561 {s : State} (hE : EX s) {args : Array Value} : (Cond.before (.code yX5_passes cX5_passes 3 (some .boolean)) args s) = true := hE.w 561 (by decide +kernel) rfl
theorem wd_562 {s : State} (hE : EX s) {args : Array Value} : (Cond.before (.methodLink RX5 82 yX9_placeAt) args s) = true := hE.w 562 (by decide +kernel) rfl
theorem wd_563 {s : State} (hE : EX s) {args : Array Value} : (Cond.before (.instanceMethod yX9_placeAt) args s) = true := hE.w 563 (by decide +kernel) rfl
theorem wd_564 {s : State} (hE : EX s) {args : Array Value} : (Cond.before (.selects RX9 yX9_placeAt yX9_placeAt) args s) = true := hE.w 564 (by decide +kernel) rfl
theorem wd_565 {s : State} (hE : EX s) {args : Array Value} : (Cond.before (.code yX9_placeAt cX9_placeAt 2 (some .int)) args s) = true := hE.w 565 (by decide +kernel) rfl
theorem wd_566 {s : State} (hE : EX s) {args : Array Value} : (Cond.before (.methodLink RX5 96 yX5_value) args s) = true := hE.w 566 (by decide +kernel) rfl
theorem wd_568 {s : State} (hE : EX s) {args : Array Value} : (Cond.before (.instanceMethod yX5_value) args s) = true := hE.w 568 (by decide +kernel) rfl
theorem wd_569 {s : State} (hE : EX s) {args : Array Value} : (Cond.before (.code yX5_value cX5_value 1 (some .int)) args s) = true := hE.w 569 (by decide +kernel) rfl
theorem wd_570 {s : State} (hE : EX s) {args : Array Value} : (Cond.before (.methodLink RX5 79 yX9_valueAt) args s) = true := hE.w 570 (by decide +kernel) rfl
theorem wd_571 {s : State} (hE : EX s) {args : Array Value} : (Cond.before (.instanceMethod yX9_valueAt) args s) = true := hE.w 571 (by decide +kernel) rfl
theorem wd_572 {s : State} (hE : EX s) {args : Array Value} : (Cond.before (.selects RX9 yX9_valueAt yX9_valueAt) args s) = true := hE.w 572 (by decide +kernel) rfl
theorem wd_573 {s : State} (hE : EX s) {args : Array Value} : (Cond.before (.code yX9_valueAt cX9_valueAt 2 (some .int)) args s) = true := hE.w 573 (by decide +kernel) rfl
theorem wd_574 {s : State} (hE : EX s) {args : Array Value} : (Cond.before (.methodLink RX5 89 yX5_stands) args s) = true := hE.w 574 (by decide +kernel) rfl
theorem wd_576 {s : State} (hE : EX s) {args : Array Value} : (Cond.before (.instanceMethod yX5_stands) args s) = true := hE.w 576 (by decide +kernel) rfl
theorem wd_577 {s : State} (hE : EX s) {args : Array Value} : (Cond.before (.code yX5_stands cX5_stands 3 (some .boolean)) args s) = true := hE.w 577 (by decide +kernel) rfl
theorem wd_578 {s : State} (hE : EX s) {args : Array Value} : (Cond.before (.methodLink RX5 99 yX5_endsLine) args s) = true := hE.w 578 (by decide +kernel) rfl
theorem wd_580 {s : State} (hE : EX s) {args : Array Value} : (Cond.before (.instanceMethod yX5_endsLine) args s) = true := hE.w 580 (by decide +kernel) rfl
theorem wd_581 {s : State} (hE : EX s) {args : Array Value} : (Cond.before (.code yX5_endsLine cX5_endsLine 1 (some .boolean)) args s) = true := hE.w 581 (by decide +kernel) rfl
theorem wd_582 {s : State} (hE : EX s) {args : Array Value} : (Cond.before (.methodLink RX5 103 yX7_addVertex) args s) = true := hE.w 582 (by decide +kernel) rfl
theorem wd_583 {s : State} (hE : EX s) {args : Array Value} : (Cond.before (.instanceMethod yX7_addVertex) args s) = true := hE.w 583 (by decide +kernel) rfl
theorem wd_584 {s : State} (hE : EX s) {args : Array Value} : (Cond.before (.selects RX7 yX7_addVertex yX7_addVertex) args s) = true := hE.w 584 (by decide +kernel) rfl
theorem wd_585 {s : State} (hE : EX s) {args : Array Value} : (Cond.before (.code yX7_addVertex cX7_addVertex 2 none) args s) = true := hE.w 585 (by decide +kernel) rfl
theorem wd_586 {s : State} (hE : EX s) {args : Array Value} : (Cond.before (.methodLink RX7 76 yX7_vertices) args s) = true := hE.w 586 (by decide +kernel) rfl
theorem wd_587 {s : State} (hE : EX s) {args : Array Value} : (Cond.before (.methodLink RX7 79 yX7_put) args s) = true := hE.w 587 (by decide +kernel) rfl
theorem wd_589 {s : State} (hE : EX s) {args : Array Value} : (Cond.before (.instanceMethod yX7_put) args s) = true := hE.w 589 (by decide +kernel) rfl
theorem wd_590 {s : State} (hE : EX s) {args : Array Value} : (Cond.before (.code yX7_put cX7_put 3 none) args s) = true := hE.w 590 (by decide +kernel) rfl
theorem wd_595 {s : State} (hE : EX s) {args : Array Value} : (Cond.before (.methodLink RX5 107 yX7_edges) args s) = true := hE.w 595 (by decide +kernel) rfl
theorem wd_596 {s : State} (hE : EX s) {args : Array Value} : (Cond.before (.instanceMethod yX7_edges) args s) = true := hE.w 596 (by decide +kernel) rfl
theorem wd_597 {s : State} (hE : EX s) {args : Array Value} : (Cond.before (.selects RX7 yX7_edges yX7_edges) args s) = true := hE.w 597 (by decide +kernel) rfl
theorem wd_598 {s : State} (hE : EX s) {args : Array Value} : (Cond.before (.code yX7_edges cX7_edges 1 (some .int)) args s) = true := hE.w 598 (by decide +kernel) rfl
theorem wd_599 {s : State} (hE : EX s) {args : Array Value} : (Cond.before (.methodLink RX5 110 yX5_readPlace) args s) = true := hE.w 599 (by decide +kernel) rfl
theorem wd_601 {s : State} (hE : EX s) {args : Array Value} : (Cond.before (.instanceMethod yX5_readPlace) args s) = true := hE.w 601 (by decide +kernel) rfl
theorem wd_602 {s : State} (hE : EX s) {args : Array Value} : (Cond.before (.code yX5_readPlace cX5_readPlace 2 (some .int)) args s) = true := hE.w 602 (by decide +kernel) rfl
theorem wd_603 {s : State} (hE : EX s) {args : Array Value} : (Cond.before (.methodLink RX5 127 yX7_hasVertex) args s) = true := hE.w 603 (by decide +kernel) rfl
theorem wd_604 {s : State} (hE : EX s) {args : Array Value} : (Cond.before (.instanceMethod yX7_hasVertex) args s) = true := hE.w 604 (by decide +kernel) rfl
theorem wd_605 {s : State} (hE : EX s) {args : Array Value} : (Cond.before (.selects RX7 yX7_hasVertex yX7_hasVertex) args s) = true := hE.w 605 (by decide +kernel) rfl
theorem wd_606 {s : State} (hE : EX s) {args : Array Value} : (Cond.before (.code yX7_hasVertex cX7_hasVertex 2 (some .boolean)) args s) = true := hE.w 606 (by decide +kernel) rfl
theorem wd_607 {s : State} (hE : EX s) {args : Array Value} : (Cond.before (.methodLink RX5 113 yX5_readIndex) args s) = true := hE.w 607 (by decide +kernel) rfl
theorem wd_609 {s : State} (hE : EX s) {args : Array Value} : (Cond.before (.instanceMethod yX5_readIndex) args s) = true := hE.w 609 (by decide +kernel) rfl
theorem wd_610 {s : State} (hE : EX s) {args : Array Value} : (Cond.before (.code yX5_readIndex cX5_readIndex 6 (some .int)) args s) = true := hE.w 610 (by decide +kernel) rfl
theorem wd_611 {s : State} (hE : EX s) {args : Array Value} : (Cond.before (.methodLink RX5 117 yX7_orderAt) args s) = true := hE.w 611 (by decide +kernel) rfl
theorem wd_612 {s : State} (hE : EX s) {args : Array Value} : (Cond.before (.instanceMethod yX7_orderAt) args s) = true := hE.w 612 (by decide +kernel) rfl
theorem wd_613 {s : State} (hE : EX s) {args : Array Value} : (Cond.before (.selects RX7 yX7_orderAt yX7_orderAt) args s) = true := hE.w 613 (by decide +kernel) rfl
theorem wd_614 {s : State} (hE : EX s) {args : Array Value} : (Cond.before (.code yX7_orderAt cX7_orderAt 2 (some .int)) args s) = true := hE.w 614 (by decide +kernel) rfl
theorem wd_615 {s : State} (hE : EX s) : va_Nw (.methodLinkNest RX5 130 yX11_rest RX11) s := hE.n 615 (by decide +kernel)
theorem wd_616 {s : State} (hE : EX s) {args : Array Value} : (Cond.before (.static yX11_rest) args s) = true := hE.w 616 (by decide +kernel) rfl
theorem wd_617 {s : State} (hE : EX s) {args : Array Value} : (Cond.before (.code yX11_rest cX11_rest 3 (some .int)) args s) = true := hE.w 617 (by decide +kernel) rfl
theorem wd_618 {s : State} (hE : EX s) : va_Nw (.methodLinkNest RX5 120 yX11_share RX11) s := hE.n 618 (by decide +kernel)
theorem wd_619 {s : State} (hE : EX s) {args : Array Value} : (Cond.before (.static yX11_share) args s) = true := hE.w 619 (by decide +kernel) rfl
theorem wd_620 {s : State} (hE : EX s) {args : Array Value} : (Cond.before (.code yX11_share cX11_share 2 (some .int)) args s) = true := hE.w 620 (by decide +kernel) rfl
theorem wd_621 {s : State} (hE : EX s) {args : Array Value} : (Cond.before (.methodLink RX5 123 yX7_addEdge) args s) = true := hE.w 621 (by decide +kernel) rfl
theorem wd_622 {s : State} (hE : EX s) {args : Array Value} : (Cond.before (.instanceMethod yX7_addEdge) args s) = true := hE.w 622 (by decide +kernel) rfl
theorem wd_623 {s : State} (hE : EX s) {args : Array Value} : (Cond.before (.selects RX7 yX7_addEdge yX7_addEdge) args s) = true := hE.w 623 (by decide +kernel) rfl
theorem wd_624 {s : State} (hE : EX s) {args : Array Value} : (Cond.before (.code yX7_addEdge cX7_addEdge 6 none) args s) = true := hE.w 624 (by decide +kernel) rfl
theorem wd_625 {s : State} (hE : EX s) {args : Array Value} : (Cond.before (.methodLink RX7 83 yX7_edges) args s) = true := hE.w 625 (by decide +kernel) rfl
theorem wd_630 {s : State} (hE : EX s) {args : Array Value} : (Cond.before (.methodLink RX5 133 yX7_isFull) args s) = true := hE.w 630 (by decide +kernel) rfl
theorem wd_631 {s : State} (hE : EX s) {args : Array Value} : (Cond.before (.instanceMethod yX7_isFull) args s) = true := hE.w 631 (by decide +kernel) rfl
theorem wd_632 {s : State} (hE : EX s) {args : Array Value} : (Cond.before (.selects RX7 yX7_isFull yX7_isFull) args s) = true := hE.w 632 (by decide +kernel) rfl
theorem wd_633 {s : State} (hE : EX s) {args : Array Value} : (Cond.before (.code yX7_isFull cX7_isFull 1 (some .boolean)) args s) = true := hE.w 633 (by decide +kernel) rfl
theorem wd_634 {s : State} (hE : EX s) {args : Array Value} : (Cond.before (.methodLink RX5 136 yX10_start) args s) = true := hE.w 634 (by decide +kernel) rfl
theorem wd_635 {s : State} (hE : EX s) {args : Array Value} : (Cond.before (.instanceMethod yX10_start) args s) = true := hE.w 635 (by decide +kernel) rfl
theorem wd_636 {s : State} (hE : EX s) {args : Array Value} : (Cond.before (.selects RX10 yX10_start yX10_start) args s) = true := hE.w 636 (by decide +kernel) rfl
theorem wd_637 {s : State} (hE : EX s) {args : Array Value} : (Cond.before (.code yX10_start cX10_start 3 none) args s) = true := hE.w 637 (by decide +kernel) rfl
theorem wd_638 {s : State} (hE : EX s) {args : Array Value} : (Cond.before (.methodLink RX5 140 yX5_readNumber) args s) = true := hE.w 638 (by decide +kernel) rfl
theorem wd_640 {s : State} (hE : EX s) {args : Array Value} : (Cond.before (.instanceMethod yX5_readNumber) args s) = true := hE.w 640 (by decide +kernel) rfl
theorem wd_641 {s : State} (hE : EX s) {args : Array Value} : (Cond.before (.code yX5_readNumber cX5_readNumber 1 none) args s) = true := hE.w 641 (by decide +kernel) rfl
theorem wd_642 {s : State} (hE : EX s) {args : Array Value} : (Cond.before (.methodLink RX5 153 yX10_addLast) args s) = true := hE.w 642 (by decide +kernel) rfl
theorem wd_643 {s : State} (hE : EX s) {args : Array Value} : (Cond.before (.instanceMethod yX10_addLast) args s) = true := hE.w 643 (by decide +kernel) rfl
theorem wd_644 {s : State} (hE : EX s) {args : Array Value} : (Cond.before (.selects RX10 yX10_addLast yX10_addLast) args s) = true := hE.w 644 (by decide +kernel) rfl
theorem wd_645 {s : State} (hE : EX s) {args : Array Value} : (Cond.before (.code yX10_addLast cX10_addLast 3 none) args s) = true := hE.w 645 (by decide +kernel) rfl
theorem wd_646 {s : State} (hE : EX s) {args : Array Value} : (Cond.before (.methodLink RX10 25 yX10_lastNumber) args s) = true := hE.w 646 (by decide +kernel) rfl
theorem wd_647 {s : State} (hE : EX s) {args : Array Value} : (Cond.before (.instanceMethod yX10_lastNumber) args s) = true := hE.w 647 (by decide +kernel) rfl
theorem wd_648 {s : State} (hE : EX s) {args : Array Value} : (Cond.before (.selects RX10 yX10_lastNumber yX10_lastNumber) args s) = true := hE.w 648 (by decide +kernel) rfl
theorem wd_649 {s : State} (hE : EX s) {args : Array Value} : (Cond.before (.code yX10_lastNumber cX10_lastNumber 1 (some .int)) args s) = true := hE.w 649 (by decide +kernel) rfl
theorem wd_650 {s : State} (hE : EX s) : va_Nw (.methodLinkNest RX10 29 yX11_rest RX11) s := hE.n 650 (by decide +kernel)
theorem wd_651 {s : State} (hE : EX s) {args : Array Value} : (Cond.before (.methodLink RX10 33 yX10_putNumber) args s) = true := hE.w 651 (by decide +kernel) rfl
theorem wd_652 {s : State} (hE : EX s) {args : Array Value} : (Cond.before (.instanceMethod yX10_putNumber) args s) = true := hE.w 652 (by decide +kernel) rfl
theorem wd_653 {s : State} (hE : EX s) {args : Array Value} : (Cond.before (.selects RX10 yX10_putNumber yX10_putNumber) args s) = true := hE.w 653 (by decide +kernel) rfl
theorem wd_654 {s : State} (hE : EX s) {args : Array Value} : (Cond.before (.code yX10_putNumber cX10_putNumber 3 none) args s) = true := hE.w 654 (by decide +kernel) rfl
theorem wd_655 {s : State} (hE : EX s) {args : Array Value} : (Cond.before (.methodLink RX5 143 yX5_isSign) args s) = true := hE.w 655 (by decide +kernel) rfl
theorem wd_657 {s : State} (hE : EX s) {args : Array Value} : (Cond.before (.instanceMethod yX5_isSign) args s) = true := hE.w 657 (by decide +kernel) rfl
theorem wd_658 {s : State} (hE : EX s) {args : Array Value} : (Cond.before (.code yX5_isSign cX5_isSign 2 (some .boolean)) args s) = true := hE.w 658 (by decide +kernel) rfl
theorem wd_659 {s : State} (hE : EX s) {args : Array Value} : (Cond.before (.methodLink RX5 146 yX5_readStep) args s) = true := hE.w 659 (by decide +kernel) rfl
theorem wd_661 {s : State} (hE : EX s) {args : Array Value} : (Cond.before (.instanceMethod yX5_readStep) args s) = true := hE.w 661 (by decide +kernel) rfl
theorem wd_662 {s : State} (hE : EX s) {args : Array Value} : (Cond.before (.code yX5_readStep cX5_readStep 3 none) args s) = true := hE.w 662 (by decide +kernel) rfl
theorem wd_663 {s : State} (hE : EX s) {args : Array Value} : (Cond.before (.methodLink RX5 156 yX10_size) args s) = true := hE.w 663 (by decide +kernel) rfl
theorem wd_664 {s : State} (hE : EX s) {args : Array Value} : (Cond.before (.instanceMethod yX10_size) args s) = true := hE.w 664 (by decide +kernel) rfl
theorem wd_665 {s : State} (hE : EX s) {args : Array Value} : (Cond.before (.selects RX10 yX10_size yX10_size) args s) = true := hE.w 665 (by decide +kernel) rfl
theorem wd_666 {s : State} (hE : EX s) {args : Array Value} : (Cond.before (.code yX10_size cX10_size 1 (some .int)) args s) = true := hE.w 666 (by decide +kernel) rfl
theorem wd_667 {s : State} (hE : EX s) : va_Nw (.methodLinkNest RX5 159 yX11_bit RX11) s := hE.n 667 (by decide +kernel)
theorem wd_668 {s : State} (hE : EX s) {args : Array Value} : (Cond.before (.static yX11_bit) args s) = true := hE.w 668 (by decide +kernel) rfl
theorem wd_669 {s : State} (hE : EX s) {args : Array Value} : (Cond.before (.code yX11_bit cX11_bit 1 (some .int)) args s) = true := hE.w 669 (by decide +kernel) rfl
theorem wd_670 {s : State} (hE : EX s) {args : Array Value} : (Cond.before (.methodLink RX5 163 yX7_hasEdge) args s) = true := hE.w 670 (by decide +kernel) rfl
theorem wd_671 {s : State} (hE : EX s) {args : Array Value} : (Cond.before (.instanceMethod yX7_hasEdge) args s) = true := hE.w 671 (by decide +kernel) rfl
theorem wd_672 {s : State} (hE : EX s) {args : Array Value} : (Cond.before (.selects RX7 yX7_hasEdge yX7_hasEdge) args s) = true := hE.w 672 (by decide +kernel) rfl
theorem wd_673 {s : State} (hE : EX s) {args : Array Value} : (Cond.before (.code yX7_hasEdge cX7_hasEdge 2 (some .boolean)) args s) = true := hE.w 673 (by decide +kernel) rfl
theorem wd_674 {s : State} (hE : EX s) {args : Array Value} : (Cond.before (.methodLink RX5 166 yX7_fromVertex) args s) = true := hE.w 674 (by decide +kernel) rfl
theorem wd_675 {s : State} (hE : EX s) {args : Array Value} : (Cond.before (.instanceMethod yX7_fromVertex) args s) = true := hE.w 675 (by decide +kernel) rfl
theorem wd_676 {s : State} (hE : EX s) {args : Array Value} : (Cond.before (.selects RX7 yX7_fromVertex yX7_fromVertex) args s) = true := hE.w 676 (by decide +kernel) rfl
theorem wd_677 {s : State} (hE : EX s) {args : Array Value} : (Cond.before (.code yX7_fromVertex cX7_fromVertex 2 (some .int)) args s) = true := hE.w 677 (by decide +kernel) rfl
theorem wd_678 {s : State} (hE : EX s) : va_Nw (.methodLinkNest RX7 43 yX11_isBackwards RX11) s := hE.n 678 (by decide +kernel)
theorem wd_679 {s : State} (hE : EX s) {args : Array Value} : (Cond.before (.static yX11_isBackwards) args s) = true := hE.w 679 (by decide +kernel) rfl
theorem wd_680 {s : State} (hE : EX s) {args : Array Value} : (Cond.before (.code yX11_isBackwards cX11_isBackwards 1 (some .boolean)) args s) = true := hE.w 680 (by decide +kernel) rfl
theorem wd_681 {s : State} (hE : EX s) {args : Array Value} : (Cond.before (.methodLink RX7 33 yX7_edgePart) args s) = true := hE.w 681 (by decide +kernel) rfl
theorem wd_682 {s : State} (hE : EX s) {args : Array Value} : (Cond.before (.instanceMethod yX7_edgePart) args s) = true := hE.w 682 (by decide +kernel) rfl
theorem wd_683 {s : State} (hE : EX s) {args : Array Value} : (Cond.before (.selects RX7 yX7_edgePart yX7_edgePart) args s) = true := hE.w 683 (by decide +kernel) rfl
theorem wd_684 {s : State} (hE : EX s) {args : Array Value} : (Cond.before (.code yX7_edgePart cX7_edgePart 4 (some .int)) args s) = true := hE.w 684 (by decide +kernel) rfl
theorem wd_685 {s : State} (hE : EX s) {args : Array Value} : (Cond.before (.methodLink RX5 169 yX10_push) args s) = true := hE.w 685 (by decide +kernel) rfl
theorem wd_686 {s : State} (hE : EX s) {args : Array Value} : (Cond.before (.instanceMethod yX10_push) args s) = true := hE.w 686 (by decide +kernel) rfl
theorem wd_687 {s : State} (hE : EX s) {args : Array Value} : (Cond.before (.selects RX10 yX10_push yX10_push) args s) = true := hE.w 687 (by decide +kernel) rfl
theorem wd_688 {s : State} (hE : EX s) {args : Array Value} : (Cond.before (.code yX10_push cX10_push 3 none) args s) = true := hE.w 688 (by decide +kernel) rfl
theorem wd_689 {s : State} (hE : EX s) {args : Array Value} : (Cond.before (.methodLink RX5 172 yX7_toVertex) args s) = true := hE.w 689 (by decide +kernel) rfl
theorem wd_690 {s : State} (hE : EX s) {args : Array Value} : (Cond.before (.instanceMethod yX7_toVertex) args s) = true := hE.w 690 (by decide +kernel) rfl
theorem wd_691 {s : State} (hE : EX s) {args : Array Value} : (Cond.before (.selects RX7 yX7_toVertex yX7_toVertex) args s) = true := hE.w 691 (by decide +kernel) rfl
theorem wd_692 {s : State} (hE : EX s) {args : Array Value} : (Cond.before (.code yX7_toVertex cX7_toVertex 2 (some .int)) args s) = true := hE.w 692 (by decide +kernel) rfl
theorem wd_693 {s : State} (hE : EX s) {args : Array Value} : (Cond.before (.methodLink RX5 149 yX7_addWord) args s) = true := hE.w 693 (by decide +kernel) rfl
theorem wd_694 {s : State} (hE : EX s) {args : Array Value} : (Cond.before (.instanceMethod yX7_addWord) args s) = true := hE.w 694 (by decide +kernel) rfl
theorem wd_695 {s : State} (hE : EX s) {args : Array Value} : (Cond.before (.selects RX7 yX7_addWord yX7_addWord) args s) = true := hE.w 695 (by decide +kernel) rfl
theorem wd_696 {s : State} (hE : EX s) {args : Array Value} : (Cond.before (.code yX7_addWord cX7_addWord 3 (some .int)) args s) = true := hE.w 696 (by decide +kernel) rfl
theorem wd_697 {s : State} (hE : EX s) {args : Array Value} : (Cond.before (.methodLink RX7 86 yX7_words) args s) = true := hE.w 697 (by decide +kernel) rfl
theorem wd_698 {s : State} (hE : EX s) {args : Array Value} : (Cond.before (.instanceMethod yX7_words) args s) = true := hE.w 698 (by decide +kernel) rfl
theorem wd_699 {s : State} (hE : EX s) {args : Array Value} : (Cond.before (.selects RX7 yX7_words yX7_words) args s) = true := hE.w 699 (by decide +kernel) rfl
theorem wd_700 {s : State} (hE : EX s) {args : Array Value} : (Cond.before (.code yX7_words cX7_words 1 (some .int)) args s) = true := hE.w 700 (by decide +kernel) rfl
theorem wd_701 {s : State} (hE : EX s) {args : Array Value} : (Cond.before (.methodLink RX7 89 yX7_writeWord) args s) = true := hE.w 701 (by decide +kernel) rfl
theorem wd_702 {s : State} (hE : EX s) {args : Array Value} : (Cond.before (.instanceMethod yX7_writeWord) args s) = true := hE.w 702 (by decide +kernel) rfl
theorem wd_703 {s : State} (hE : EX s) {args : Array Value} : (Cond.before (.selects RX7 yX7_writeWord yX7_writeWord) args s) = true := hE.w 703 (by decide +kernel) rfl
theorem wd_704 {s : State} (hE : EX s) {args : Array Value} : (Cond.before (.code yX7_writeWord cX7_writeWord 5 none) args s) = true := hE.w 704 (by decide +kernel) rfl
theorem wd_705 {s : State} (hE : EX s) {args : Array Value} : (Cond.before (.methodLink RX7 93 yX7_hasWord) args s) = true := hE.w 705 (by decide +kernel) rfl
theorem wd_706 {s : State} (hE : EX s) {args : Array Value} : (Cond.before (.instanceMethod yX7_hasWord) args s) = true := hE.w 706 (by decide +kernel) rfl
theorem wd_707 {s : State} (hE : EX s) {args : Array Value} : (Cond.before (.selects RX7 yX7_hasWord yX7_hasWord) args s) = true := hE.w 707 (by decide +kernel) rfl
theorem wd_708 {s : State} (hE : EX s) {args : Array Value} : (Cond.before (.code yX7_hasWord cX7_hasWord 2 (some .boolean)) args s) = true := hE.w 708 (by decide +kernel) rfl
theorem wd_709 {s : State} (hE : EX s) {args : Array Value} : (Cond.before (.methodLink RX7 57 yX10_size) args s) = true := hE.w 709 (by decide +kernel) rfl
theorem wd_710 {s : State} (hE : EX s) {args : Array Value} : (Cond.before (.methodLink RX7 63 yX10_begin) args s) = true := hE.w 710 (by decide +kernel) rfl
theorem wd_711 {s : State} (hE : EX s) {args : Array Value} : (Cond.before (.instanceMethod yX10_begin) args s) = true := hE.w 711 (by decide +kernel) rfl
theorem wd_712 {s : State} (hE : EX s) {args : Array Value} : (Cond.before (.selects RX10 yX10_begin yX10_begin) args s) = true := hE.w 712 (by decide +kernel) rfl
theorem wd_713 {s : State} (hE : EX s) {args : Array Value} : (Cond.before (.code yX10_begin cX10_begin 1 (some .int)) args s) = true := hE.w 713 (by decide +kernel) rfl
theorem wd_714 {s : State} (hE : EX s) {args : Array Value} : (Cond.before (.methodLink RX7 96 yX10_numberAt) args s) = true := hE.w 714 (by decide +kernel) rfl
theorem wd_715 {s : State} (hE : EX s) {args : Array Value} : (Cond.before (.instanceMethod yX10_numberAt) args s) = true := hE.w 715 (by decide +kernel) rfl
theorem wd_716 {s : State} (hE : EX s) {args : Array Value} : (Cond.before (.selects RX10 yX10_numberAt yX10_numberAt) args s) = true := hE.w 716 (by decide +kernel) rfl
theorem wd_717 {s : State} (hE : EX s) {args : Array Value} : (Cond.before (.code yX10_numberAt cX10_numberAt 2 (some .int)) args s) = true := hE.w 717 (by decide +kernel) rfl
theorem wd_718 {s : State} (hE : EX s) {args : Array Value} : (Cond.before (.methodLink RX7 99 yX10_stepAt) args s) = true := hE.w 718 (by decide +kernel) rfl
theorem wd_719 {s : State} (hE : EX s) {args : Array Value} : (Cond.before (.instanceMethod yX10_stepAt) args s) = true := hE.w 719 (by decide +kernel) rfl
theorem wd_720 {s : State} (hE : EX s) {args : Array Value} : (Cond.before (.selects RX10 yX10_stepAt yX10_stepAt) args s) = true := hE.w 720 (by decide +kernel) rfl
theorem wd_721 {s : State} (hE : EX s) {args : Array Value} : (Cond.before (.code yX10_stepAt cX10_stepAt 2 (some .int)) args s) = true := hE.w 721 (by decide +kernel) rfl
theorem wd_722 {s : State} (hE : EX s) {args : Array Value} : (Cond.before (.methodLink RX11 118 yX3_push) args s) = true := hE.w 722 (by decide +kernel) rfl
theorem wd_723 {s : State} (hE : EX s) {args : Array Value} : (Cond.before (.instanceMethod yX3_push) args s) = true := hE.w 723 (by decide +kernel) rfl
theorem wd_724 {s : State} (hE : EX s) {args : Array Value} : (Cond.before (.selects RX3 yX3_push yX3_push) args s) = true := hE.w 724 (by decide +kernel) rfl
theorem wd_725 {s : State} (hE : EX s) {args : Array Value} : (Cond.before (.code yX3_push cX3_push 3 none) args s) = true := hE.w 725 (by decide +kernel) rfl
theorem wd_726 {s : State} (hE : EX s) : va_Nw (.methodLinkNest RX3 25 yX11_rest RX11) s := hE.n 726 (by decide +kernel)
theorem wd_727 {s : State} (hE : EX s) {args : Array Value} : (Cond.before (.methodLink RX3 29 yX3_slot) args s) = true := hE.w 727 (by decide +kernel) rfl
theorem wd_729 {s : State} (hE : EX s) {args : Array Value} : (Cond.before (.instanceMethod yX3_slot) args s) = true := hE.w 729 (by decide +kernel) rfl
theorem wd_730 {s : State} (hE : EX s) {args : Array Value} : (Cond.before (.code yX3_slot cX3_slot 3 (some (.object "GluedWords$Store"))) args s) = true := hE.w 730 (by decide +kernel) rfl
theorem wd_731 {s : State} (hE : EX s) {args : Array Value} : (Cond.before (.methodLink RX3 33 yX7_copyFrom) args s) = true := hE.w 731 (by decide +kernel) rfl
theorem wd_732 {s : State} (hE : EX s) {args : Array Value} : (Cond.before (.instanceMethod yX7_copyFrom) args s) = true := hE.w 732 (by decide +kernel) rfl
theorem wd_733 {s : State} (hE : EX s) {args : Array Value} : (Cond.before (.selects RX7 yX7_copyFrom yX7_copyFrom) args s) = true := hE.w 733 (by decide +kernel) rfl
theorem wd_734 {s : State} (hE : EX s) {args : Array Value} : (Cond.before (.code yX7_copyFrom cX7_copyFrom 2 none) args s) = true := hE.w 734 (by decide +kernel) rfl
theorem wd_735 {s : State} (hE : EX s) {args : Array Value} : (Cond.before (.methodLink RX7 21 Lib.Math.min.name) args s) = true := hE.w 735 (by decide +kernel) rfl
theorem wd_736 {s : State} (hE : EX s) {args : Array Value} : (Cond.before (.methodLink RX7 27 arraycopyName) args s) = true := hE.w 736 (by decide +kernel) rfl
theorem wd_737 {s : State} (hE : EX s) {args : Array Value} : (Cond.before (.static arraycopyName) args s) = true := hE.w 737 (by decide +kernel) rfl
theorem wd_738 {s : State} (hE : EX s) {args : Array Value} : (Cond.before (.native arraycopyName) args s) = true := hE.w 738 (by decide +kernel) rfl
theorem wd_743 {s : State} (hE : EX s) {args : Array Value} : (Cond.before (.methodLink RX11 126 yX7_copyFrom) args s) = true := hE.w 743 (by decide +kernel) rfl
theorem wd_744 {s : State} (hE : EX s) {args : Array Value} : (Cond.before (.methodLink RX11 129 yX7_words) args s) = true := hE.w 744 (by decide +kernel) rfl
theorem wd_745 {s : State} (hE : EX s) {args : Array Value} : (Cond.before (.methodLink RX11 133 yX11_answer) args s) = true := hE.w 745 (by decide +kernel) rfl
theorem wd_747 {s : State} (hE : EX s) {args : Array Value} : (Cond.before (.instanceMethod yX11_answer) args s) = true := hE.w 747 (by decide +kernel) rfl
theorem wd_748 {s : State} (hE : EX s) {args : Array Value} : (Cond.before (.code yX11_answer cX11_answer 2 (some .int)) args s) = true := hE.w 748 (by decide +kernel) rfl
theorem wd_761 {s : State} (hE : EX s) {args : Array Value} : (Cond.before (.methodLink RX11 139 yX7_vertices) args s) = true := hE.w 761 (by decide +kernel) rfl
theorem wd_762 {s : State} (hE : EX s) {args : Array Value} : (Cond.before (.methodLink RX11 142 yX7_edges) args s) = true := hE.w 762 (by decide +kernel) rfl
theorem wd_763 {s : State} (hE : EX s) {args : Array Value} : (Cond.before (.methodLink RX11 145 yX3_size) args s) = true := hE.w 763 (by decide +kernel) rfl
theorem wd_764 {s : State} (hE : EX s) {args : Array Value} : (Cond.before (.instanceMethod yX3_size) args s) = true := hE.w 764 (by decide +kernel) rfl
theorem wd_765 {s : State} (hE : EX s) {args : Array Value} : (Cond.before (.selects RX3 yX3_size yX3_size) args s) = true := hE.w 765 (by decide +kernel) rfl
theorem wd_766 {s : State} (hE : EX s) {args : Array Value} : (Cond.before (.code yX3_size cX3_size 1 (some .int)) args s) = true := hE.w 766 (by decide +kernel) rfl
theorem wd_767 {s : State} (hE : EX s) {args : Array Value} : (Cond.before (.methodLink RX11 148 yX6_parts) args s) = true := hE.w 767 (by decide +kernel) rfl
theorem wd_768 {s : State} (hE : EX s) {args : Array Value} : (Cond.before (.instanceMethod yX6_parts) args s) = true := hE.w 768 (by decide +kernel) rfl
theorem wd_769 {s : State} (hE : EX s) {args : Array Value} : (Cond.before (.selects RX6 yX6_parts yX6_parts) args s) = true := hE.w 769 (by decide +kernel) rfl
theorem wd_770 {s : State} (hE : EX s) {args : Array Value} : (Cond.before (.code yX6_parts cX6_parts 4 (some .int)) args s) = true := hE.w 770 (by decide +kernel) rfl
theorem wd_771 {s : State} (hE : EX s) {args : Array Value} : (Cond.before (.methodLink RX6 51 yX6_join) args s) = true := hE.w 771 (by decide +kernel) rfl
theorem wd_773 {s : State} (hE : EX s) {args : Array Value} : (Cond.before (.instanceMethod yX6_join) args s) = true := hE.w 773 (by decide +kernel) rfl
theorem wd_774 {s : State} (hE : EX s) {args : Array Value} : (Cond.before (.code yX6_join cX6_join 5 none) args s) = true := hE.w 774 (by decide +kernel) rfl
theorem wd_775 {s : State} (hE : EX s) {args : Array Value} : (Cond.before (.methodLink RX6 22 yX6_setLeast) args s) = true := hE.w 775 (by decide +kernel) rfl
theorem wd_777 {s : State} (hE : EX s) {args : Array Value} : (Cond.before (.instanceMethod yX6_setLeast) args s) = true := hE.w 777 (by decide +kernel) rfl
theorem wd_778 {s : State} (hE : EX s) {args : Array Value} : (Cond.before (.code yX6_setLeast cX6_setLeast 3 none) args s) = true := hE.w 778 (by decide +kernel) rfl
theorem wd_779 {s : State} (hE : EX s) {args : Array Value} : (Cond.before (.methodLink RX6 26 yX7_vertices) args s) = true := hE.w 779 (by decide +kernel) rfl
theorem wd_780 {s : State} (hE : EX s) {args : Array Value} : (Cond.before (.methodLink RX6 32 yX7_stepKinds) args s) = true := hE.w 780 (by decide +kernel) rfl
theorem wd_781 {s : State} (hE : EX s) {args : Array Value} : (Cond.before (.instanceMethod yX7_stepKinds) args s) = true := hE.w 781 (by decide +kernel) rfl
theorem wd_782 {s : State} (hE : EX s) {args : Array Value} : (Cond.before (.selects RX7 yX7_stepKinds yX7_stepKinds) args s) = true := hE.w 782 (by decide +kernel) rfl
theorem wd_783 {s : State} (hE : EX s) {args : Array Value} : (Cond.before (.code yX7_stepKinds cX7_stepKinds 1 (some .int)) args s) = true := hE.w 783 (by decide +kernel) rfl
theorem wd_784 {s : State} (hE : EX s) {args : Array Value} : (Cond.before (.methodLink RX6 35 yX7_fromVertex) args s) = true := hE.w 784 (by decide +kernel) rfl
theorem wd_785 {s : State} (hE : EX s) {args : Array Value} : (Cond.before (.methodLink RX6 39 yX6_leastOf) args s) = true := hE.w 785 (by decide +kernel) rfl
theorem wd_787 {s : State} (hE : EX s) {args : Array Value} : (Cond.before (.instanceMethod yX6_leastOf) args s) = true := hE.w 787 (by decide +kernel) rfl
theorem wd_788 {s : State} (hE : EX s) {args : Array Value} : (Cond.before (.code yX6_leastOf cX6_leastOf 2 (some .int)) args s) = true := hE.w 788 (by decide +kernel) rfl
theorem wd_789 {s : State} (hE : EX s) {args : Array Value} : (Cond.before (.methodLink RX6 42 yX7_toVertex) args s) = true := hE.w 789 (by decide +kernel) rfl
theorem wd_790 {s : State} (hE : EX s) {args : Array Value} : (Cond.before (.methodLink RX6 45 Lib.Math.min.name) args s) = true := hE.w 790 (by decide +kernel) rfl
theorem wd_791 {s : State} (hE : EX s) : va_Nw (.methodLinkNest RX6 55 yX11_bit RX11) s := hE.n 791 (by decide +kernel)
theorem wd_796 {s : State} (hE : EX s) {args : Array Value} : (Cond.before (.methodLink RX11 152 yX7_hasVertex) args s) = true := hE.w 796 (by decide +kernel) rfl
theorem wd_797 {s : State} (hE : EX s) {args : Array Value} : (Cond.before (.methodLink RX11 156 yX7_orderAt) args s) = true := hE.w 797 (by decide +kernel) rfl
theorem wd_802 {s : State} (hE : EX s) {args : Array Value} : (Cond.before (.methodLink RX11 159 yX7_hasEdge) args s) = true := hE.w 802 (by decide +kernel) rfl
theorem wd_803 {s : State} (hE : EX s) {args : Array Value} : (Cond.before (.methodLink RX11 162 yX7_common) args s) = true := hE.w 803 (by decide +kernel) rfl
theorem wd_804 {s : State} (hE : EX s) {args : Array Value} : (Cond.before (.instanceMethod yX7_common) args s) = true := hE.w 804 (by decide +kernel) rfl
theorem wd_805 {s : State} (hE : EX s) {args : Array Value} : (Cond.before (.selects RX7 yX7_common yX7_common) args s) = true := hE.w 805 (by decide +kernel) rfl
theorem wd_806 {s : State} (hE : EX s) {args : Array Value} : (Cond.before (.code yX7_common cX7_common 2 (some .int)) args s) = true := hE.w 806 (by decide +kernel) rfl
theorem wd_807 {s : State} (hE : EX s) {args : Array Value} : (Cond.before (.methodLink RX7 36 yX7_orderAt) args s) = true := hE.w 807 (by decide +kernel) rfl
theorem wd_808 {s : State} (hE : EX s) : va_Nw (.methodLinkNest RX7 40 yX11_share RX11) s := hE.n 808 (by decide +kernel)
theorem wd_809 {s : State} (hE : EX s) {args : Array Value} : (Cond.before (.methodLink RX11 165 yX7_edgePart) args s) = true := hE.w 809 (by decide +kernel) rfl
theorem wd_814 {s : State} (hE : EX s) {args : Array Value} : (Cond.before (.methodLink RX11 169 yX7_readWord) args s) = true := hE.w 814 (by decide +kernel) rfl
theorem wd_815 {s : State} (hE : EX s) {args : Array Value} : (Cond.before (.instanceMethod yX7_readWord) args s) = true := hE.w 815 (by decide +kernel) rfl
theorem wd_816 {s : State} (hE : EX s) {args : Array Value} : (Cond.before (.selects RX7 yX7_readWord yX7_readWord) args s) = true := hE.w 816 (by decide +kernel) rfl
theorem wd_817 {s : State} (hE : EX s) {args : Array Value} : (Cond.before (.code yX7_readWord cX7_readWord 6 (some .boolean)) args s) = true := hE.w 817 (by decide +kernel) rfl
theorem wd_818 {s : State} (hE : EX s) {args : Array Value} : (Cond.before (.methodLink RX7 102 yX7_cell) args s) = true := hE.w 818 (by decide +kernel) rfl
theorem wd_820 {s : State} (hE : EX s) {args : Array Value} : (Cond.before (.instanceMethod yX7_cell) args s) = true := hE.w 820 (by decide +kernel) rfl
theorem wd_821 {s : State} (hE : EX s) {args : Array Value} : (Cond.before (.code yX7_cell cX7_cell 2 (some .int)) args s) = true := hE.w 821 (by decide +kernel) rfl
theorem wd_822 {s : State} (hE : EX s) {args : Array Value} : (Cond.before (.methodLink RX7 105 yX10_start) args s) = true := hE.w 822 (by decide +kernel) rfl
theorem wd_823 {s : State} (hE : EX s) {args : Array Value} : (Cond.before (.methodLink RX7 108 yX10_push) args s) = true := hE.w 823 (by decide +kernel) rfl
theorem wd_824 {s : State} (hE : EX s) {args : Array Value} : (Cond.before (.methodLink RX11 173 yX10_begin) args s) = true := hE.w 824 (by decide +kernel) rfl
theorem wd_825 {s : State} (hE : EX s) {args : Array Value} : (Cond.before (.methodLink RX11 176 yX7_endOf) args s) = true := hE.w 825 (by decide +kernel) rfl
theorem wd_826 {s : State} (hE : EX s) {args : Array Value} : (Cond.before (.instanceMethod yX7_endOf) args s) = true := hE.w 826 (by decide +kernel) rfl
theorem wd_827 {s : State} (hE : EX s) {args : Array Value} : (Cond.before (.selects RX7 yX7_endOf yX7_endOf) args s) = true := hE.w 827 (by decide +kernel) rfl
theorem wd_828 {s : State} (hE : EX s) {args : Array Value} : (Cond.before (.code yX7_endOf cX7_endOf 2 (some .int)) args s) = true := hE.w 828 (by decide +kernel) rfl
theorem wd_829 {s : State} (hE : EX s) {args : Array Value} : (Cond.before (.methodLink RX7 66 yX10_lastStep) args s) = true := hE.w 829 (by decide +kernel) rfl
theorem wd_830 {s : State} (hE : EX s) {args : Array Value} : (Cond.before (.instanceMethod yX10_lastStep) args s) = true := hE.w 830 (by decide +kernel) rfl
theorem wd_831 {s : State} (hE : EX s) {args : Array Value} : (Cond.before (.selects RX10 yX10_lastStep yX10_lastStep) args s) = true := hE.w 831 (by decide +kernel) rfl
theorem wd_832 {s : State} (hE : EX s) {args : Array Value} : (Cond.before (.code yX10_lastStep cX10_lastStep 1 (some .int)) args s) = true := hE.w 832 (by decide +kernel) rfl
theorem wd_833 {s : State} (hE : EX s) {args : Array Value} : (Cond.before (.methodLink RX7 69 yX7_toVertex) args s) = true := hE.w 833 (by decide +kernel) rfl
theorem wd_834 {s : State} (hE : EX s) {args : Array Value} : (Cond.before (.methodLink RX11 180 yX10_size) args s) = true := hE.w 834 (by decide +kernel) rfl
theorem wd_835 {s : State} (hE : EX s) {args : Array Value} : (Cond.before (.methodLink RX11 181 yX2_reduce) args s) = true := hE.w 835 (by decide +kernel) rfl
theorem wd_836 {s : State} (hE : EX s) {args : Array Value} : (Cond.before (.static yX2_reduce) args s) = true := hE.w 836 (by decide +kernel) rfl
theorem wd_837 {s : State} (hE : EX s) {args : Array Value} : (Cond.before (.code yX2_reduce cX2_reduce 3 (some .int)) args s) = true := hE.w 837 (by decide +kernel) rfl
theorem wd_838 {s : State} (hE : EX s) {args : Array Value} : (Cond.before (.methodLink RX2 62 yX10_begin) args s) = true := hE.w 838 (by decide +kernel) rfl
theorem wd_839 {s : State} (hE : EX s) {args : Array Value} : (Cond.before (.methodLink RX2 82 yX10_start) args s) = true := hE.w 839 (by decide +kernel) rfl
theorem wd_840 {s : State} (hE : EX s) {args : Array Value} : (Cond.before (.methodLink RX2 85 yX2_append) args s) = true := hE.w 840 (by decide +kernel) rfl
theorem wd_841 {s : State} (hE : EX s) {args : Array Value} : (Cond.before (.static yX2_append) args s) = true := hE.w 841 (by decide +kernel) rfl
theorem wd_842 {s : State} (hE : EX s) {args : Array Value} : (Cond.before (.code yX2_append cX2_append 5 (some .int)) args s) = true := hE.w 842 (by decide +kernel) rfl
theorem wd_843 {s : State} (hE : EX s) {args : Array Value} : (Cond.before (.methodLink RX2 59 yX10_numberAt) args s) = true := hE.w 843 (by decide +kernel) rfl
theorem wd_844 {s : State} (hE : EX s) {args : Array Value} : (Cond.before (.methodLink RX2 24 yX7_orderAt) args s) = true := hE.w 844 (by decide +kernel) rfl
theorem wd_845 {s : State} (hE : EX s) {args : Array Value} : (Cond.before (.methodLink RX2 46 yX10_addLast) args s) = true := hE.w 845 (by decide +kernel) rfl
theorem wd_846 {s : State} (hE : EX s) {args : Array Value} : (Cond.before (.methodLink RX2 50 yX10_size) args s) = true := hE.w 846 (by decide +kernel) rfl
theorem wd_847 {s : State} (hE : EX s) {args : Array Value} : (Cond.before (.methodLink RX2 65 yX10_stepAt) args s) = true := hE.w 847 (by decide +kernel) rfl
theorem wd_848 {s : State} (hE : EX s) {args : Array Value} : (Cond.before (.methodLink RX2 68 yX2_takeStep) args s) = true := hE.w 848 (by decide +kernel) rfl
theorem wd_849 {s : State} (hE : EX s) {args : Array Value} : (Cond.before (.static yX2_takeStep) args s) = true := hE.w 849 (by decide +kernel) rfl
theorem wd_850 {s : State} (hE : EX s) {args : Array Value} : (Cond.before (.code yX2_takeStep cX2_takeStep 8 (some .boolean)) args s) = true := hE.w 850 (by decide +kernel) rfl
theorem wd_851 {s : State} (hE : EX s) {args : Array Value} : (Cond.before (.methodLink RX2 9 yX10_lastNumber) args s) = true := hE.w 851 (by decide +kernel) rfl
theorem wd_852 {s : State} (hE : EX s) {args : Array Value} : (Cond.before (.methodLink RX2 15 yX7_fromIndex) args s) = true := hE.w 852 (by decide +kernel) rfl
theorem wd_853 {s : State} (hE : EX s) {args : Array Value} : (Cond.before (.instanceMethod yX7_fromIndex) args s) = true := hE.w 853 (by decide +kernel) rfl
theorem wd_854 {s : State} (hE : EX s) {args : Array Value} : (Cond.before (.selects RX7 yX7_fromIndex yX7_fromIndex) args s) = true := hE.w 854 (by decide +kernel) rfl
theorem wd_855 {s : State} (hE : EX s) {args : Array Value} : (Cond.before (.code yX7_fromIndex cX7_fromIndex 2 (some .int)) args s) = true := hE.w 855 (by decide +kernel) rfl
theorem wd_856 {s : State} (hE : EX s) {args : Array Value} : (Cond.before (.methodLink RX2 21 yX7_toVertex) args s) = true := hE.w 856 (by decide +kernel) rfl
theorem wd_857 {s : State} (hE : EX s) : va_Nw (.methodLinkNest RX2 27 yX11_share RX11) s := hE.n 857 (by decide +kernel)
theorem wd_858 {s : State} (hE : EX s) {args : Array Value} : (Cond.before (.methodLink RX2 31 yX7_toIndex) args s) = true := hE.w 858 (by decide +kernel) rfl
theorem wd_859 {s : State} (hE : EX s) {args : Array Value} : (Cond.before (.instanceMethod yX7_toIndex) args s) = true := hE.w 859 (by decide +kernel) rfl
theorem wd_860 {s : State} (hE : EX s) {args : Array Value} : (Cond.before (.selects RX7 yX7_toIndex yX7_toIndex) args s) = true := hE.w 860 (by decide +kernel) rfl
theorem wd_861 {s : State} (hE : EX s) {args : Array Value} : (Cond.before (.code yX7_toIndex cX7_toIndex 2 (some .int)) args s) = true := hE.w 861 (by decide +kernel) rfl
theorem wd_862 {s : State} (hE : EX s) {args : Array Value} : (Cond.before (.methodLink RX2 34 yX10_lastStep) args s) = true := hE.w 862 (by decide +kernel) rfl
theorem wd_863 {s : State} (hE : EX s) : va_Nw (.methodLinkNest RX2 37 yX11_opposite RX11) s := hE.n 863 (by decide +kernel)
theorem wd_864 {s : State} (hE : EX s) {args : Array Value} : (Cond.before (.static yX11_opposite) args s) = true := hE.w 864 (by decide +kernel) rfl
theorem wd_865 {s : State} (hE : EX s) {args : Array Value} : (Cond.before (.code yX11_opposite cX11_opposite 1 (some .int)) args s) = true := hE.w 865 (by decide +kernel) rfl
theorem wd_866 {s : State} (hE : EX s) : va_Nw (.methodLinkNest RX2 40 yX11_rest RX11) s := hE.n 866 (by decide +kernel)
theorem wd_867 {s : State} (hE : EX s) {args : Array Value} : (Cond.before (.methodLink RX2 43 yX10_pop) args s) = true := hE.w 867 (by decide +kernel) rfl
theorem wd_868 {s : State} (hE : EX s) {args : Array Value} : (Cond.before (.instanceMethod yX10_pop) args s) = true := hE.w 868 (by decide +kernel) rfl
theorem wd_869 {s : State} (hE : EX s) {args : Array Value} : (Cond.before (.selects RX10 yX10_pop yX10_pop) args s) = true := hE.w 869 (by decide +kernel) rfl
theorem wd_870 {s : State} (hE : EX s) {args : Array Value} : (Cond.before (.code yX10_pop cX10_pop 1 none) args s) = true := hE.w 870 (by decide +kernel) rfl
theorem wd_871 {s : State} (hE : EX s) {args : Array Value} : (Cond.before (.methodLink RX2 53 yX10_putNumber) args s) = true := hE.w 871 (by decide +kernel) rfl
theorem wd_872 {s : State} (hE : EX s) {args : Array Value} : (Cond.before (.methodLink RX2 56 yX10_push) args s) = true := hE.w 872 (by decide +kernel) rfl
theorem wd_873 {s : State} (hE : EX s) : va_Nw (.methodLinkNest RX2 74 yX11_bit RX11) s := hE.n 873 (by decide +kernel)
theorem wd_874 {s : State} (hE : EX s) {args : Array Value} : (Cond.before (.methodLink RX11 187 yX10_sameAs) args s) = true := hE.w 874 (by decide +kernel) rfl
theorem wd_875 {s : State} (hE : EX s) {args : Array Value} : (Cond.before (.instanceMethod yX10_sameAs) args s) = true := hE.w 875 (by decide +kernel) rfl
theorem wd_876 {s : State} (hE : EX s) {args : Array Value} : (Cond.before (.selects RX10 yX10_sameAs yX10_sameAs) args s) = true := hE.w 876 (by decide +kernel) rfl
theorem wd_877 {s : State} (hE : EX s) {args : Array Value} : (Cond.before (.code yX10_sameAs cX10_sameAs 3 (some .boolean)) args s) = true := hE.w 877 (by decide +kernel) rfl
theorem wd_878 {s : State} (hE : EX s) {args : Array Value} : (Cond.before (.methodLink RX10 41 yX10_sameSteps) args s) = true := hE.w 878 (by decide +kernel) rfl
theorem wd_879 {s : State} (hE : EX s) {args : Array Value} : (Cond.before (.instanceMethod yX10_sameSteps) args s) = true := hE.w 879 (by decide +kernel) rfl
theorem wd_880 {s : State} (hE : EX s) {args : Array Value} : (Cond.before (.selects RX10 yX10_sameSteps yX10_sameSteps) args s) = true := hE.w 880 (by decide +kernel) rfl
theorem wd_881 {s : State} (hE : EX s) {args : Array Value} : (Cond.before (.code yX10_sameSteps cX10_sameSteps 3 (some .boolean)) args s) = true := hE.w 881 (by decide +kernel) rfl
theorem wd_882 {s : State} (hE : EX s) {args : Array Value} : (Cond.before (.methodLink RX10 37 yX10_stepAt) args s) = true := hE.w 882 (by decide +kernel) rfl
theorem wd_883 {s : State} (hE : EX s) {args : Array Value} : (Cond.before (.methodLink RX10 45 yX10_numberAt) args s) = true := hE.w 883 (by decide +kernel) rfl
theorem wd_884 {s : State} (hE : EX s) {args : Array Value} : (Cond.before (.methodLink RX11 191 yX11_bit) args s) = true := hE.w 884 (by decide +kernel) rfl
theorem wd_889 {s : State} (hE : EX s) {args : Array Value} : (Cond.before (.methodLink RX11 195 yX10_numberAt) args s) = true := hE.w 889 (by decide +kernel) rfl
theorem wd_894 {s : State} (hE : EX s) {args : Array Value} : (Cond.before (.methodLink RX11 198 yX10_stepAt) args s) = true := hE.w 894 (by decide +kernel) rfl
theorem wd_899 {s : State} (hE : EX s) {args : Array Value} : (Cond.before (.methodLink RX11 201 yX7_isFull) args s) = true := hE.w 899 (by decide +kernel) rfl
theorem wd_900 {s : State} (hE : EX s) {args : Array Value} : (Cond.before (.methodLink RX11 205 yX11_rest) args s) = true := hE.w 900 (by decide +kernel) rfl
theorem wd_901 {s : State} (hE : EX s) {args : Array Value} : (Cond.before (.methodLink RX11 208 yX10_start) args s) = true := hE.w 901 (by decide +kernel) rfl
theorem wd_902 {s : State} (hE : EX s) {args : Array Value} : (Cond.before (.methodLink RX11 212 yX11_keep) args s) = true := hE.w 902 (by decide +kernel) rfl
theorem wd_904 {s : State} (hE : EX s) {args : Array Value} : (Cond.before (.instanceMethod yX11_keep) args s) = true := hE.w 904 (by decide +kernel) rfl
theorem wd_905 {s : State} (hE : EX s) {args : Array Value} : (Cond.before (.code yX11_keep cX11_keep 2 (some .int)) args s) = true := hE.w 905 (by decide +kernel) rfl
theorem wd_906 {s : State} (hE : EX s) {args : Array Value} : (Cond.before (.methodLink RX11 356 yX7_addWord) args s) = true := hE.w 906 (by decide +kernel) rfl
theorem wd_911 {s : State} (hE : EX s) {args : Array Value} : (Cond.before (.methodLink RX11 215 yX7_writeWord) args s) = true := hE.w 911 (by decide +kernel) rfl
theorem wd_916 {s : State} (hE : EX s) {args : Array Value} : (Cond.before (.methodLink RX11 219 yX11_readTwo) args s) = true := hE.w 916 (by decide +kernel) rfl
theorem wd_918 {s : State} (hE : EX s) {args : Array Value} : (Cond.before (.instanceMethod yX11_readTwo) args s) = true := hE.w 918 (by decide +kernel) rfl
theorem wd_919 {s : State} (hE : EX s) {args : Array Value} : (Cond.before (.code yX11_readTwo cX11_readTwo 3 (some .boolean)) args s) = true := hE.w 919 (by decide +kernel) rfl
theorem wd_920 {s : State} (hE : EX s) {args : Array Value} : (Cond.before (.methodLink RX11 223 yX2_product) args s) = true := hE.w 920 (by decide +kernel) rfl
theorem wd_921 {s : State} (hE : EX s) {args : Array Value} : (Cond.before (.static yX2_product) args s) = true := hE.w 921 (by decide +kernel) rfl
theorem wd_922 {s : State} (hE : EX s) {args : Array Value} : (Cond.before (.code yX2_product cX2_product 4 none) args s) = true := hE.w 922 (by decide +kernel) rfl
theorem wd_927 {s : State} (hE : EX s) {args : Array Value} : (Cond.before (.methodLink RX11 227 yX2_turn) args s) = true := hE.w 927 (by decide +kernel) rfl
theorem wd_928 {s : State} (hE : EX s) {args : Array Value} : (Cond.before (.static yX2_turn) args s) = true := hE.w 928 (by decide +kernel) rfl
theorem wd_929 {s : State} (hE : EX s) {args : Array Value} : (Cond.before (.code yX2_turn cX2_turn 3 none) args s) = true := hE.w 929 (by decide +kernel) rfl
theorem wd_930 {s : State} (hE : EX s) {args : Array Value} : (Cond.before (.methodLink RX2 78 yX7_endOf) args s) = true := hE.w 930 (by decide +kernel) rfl
theorem wd_931 {s : State} (hE : EX s) {args : Array Value} : (Cond.before (.methodLink RX2 89 yX2_appendTurned) args s) = true := hE.w 931 (by decide +kernel) rfl
theorem wd_932 {s : State} (hE : EX s) {args : Array Value} : (Cond.before (.static yX2_appendTurned) args s) = true := hE.w 932 (by decide +kernel) rfl
theorem wd_933 {s : State} (hE : EX s) {args : Array Value} : (Cond.before (.code yX2_appendTurned cX2_appendTurned 4 none) args s) = true := hE.w 933 (by decide +kernel) rfl
theorem wd_938 {s : State} (hE : EX s) {args : Array Value} : (Cond.before (.methodLink RX11 231 yX11_cannotGrowFromLoop) args s) = true := hE.w 938 (by decide +kernel) rfl
theorem wd_940 {s : State} (hE : EX s) {args : Array Value} : (Cond.before (.instanceMethod yX11_cannotGrowFromLoop) args s) = true := hE.w 940 (by decide +kernel) rfl
theorem wd_941 {s : State} (hE : EX s) {args : Array Value} : (Cond.before (.code yX11_cannotGrowFromLoop cX11_cannotGrowFromLoop 3 (some .int)) args s) = true := hE.w 941 (by decide +kernel) rfl
theorem wd_942 {s : State} (hE : EX s) {args : Array Value} : (Cond.before (.methodLink RX11 295 yX11_readLoop) args s) = true := hE.w 942 (by decide +kernel) rfl
theorem wd_944 {s : State} (hE : EX s) {args : Array Value} : (Cond.before (.instanceMethod yX11_readLoop) args s) = true := hE.w 944 (by decide +kernel) rfl
theorem wd_945 {s : State} (hE : EX s) {args : Array Value} : (Cond.before (.code yX11_readLoop cX11_readLoop 2 (some .int)) args s) = true := hE.w 945 (by decide +kernel) rfl
theorem wd_946 {s : State} (hE : EX s) {args : Array Value} : (Cond.before (.methodLink RX11 298 yX7_isLoop) args s) = true := hE.w 946 (by decide +kernel) rfl
theorem wd_947 {s : State} (hE : EX s) {args : Array Value} : (Cond.before (.instanceMethod yX7_isLoop) args s) = true := hE.w 947 (by decide +kernel) rfl
theorem wd_948 {s : State} (hE : EX s) {args : Array Value} : (Cond.before (.selects RX7 yX7_isLoop yX7_isLoop) args s) = true := hE.w 948 (by decide +kernel) rfl
theorem wd_949 {s : State} (hE : EX s) {args : Array Value} : (Cond.before (.code yX7_isLoop cX7_isLoop 2 (some .boolean)) args s) = true := hE.w 949 (by decide +kernel) rfl
theorem wd_950 {s : State} (hE : EX s) {args : Array Value} : (Cond.before (.methodLink RX7 72 yX7_endOf) args s) = true := hE.w 950 (by decide +kernel) rfl
theorem wd_951 {s : State} (hE : EX s) {args : Array Value} : (Cond.before (.methodLink RX11 234 Lib.Math.abs.name) args s) = true := hE.w 951 (by decide +kernel) rfl
theorem wd_952 {s : State} (hE : EX s) {args : Array Value} : (Cond.before (.static Lib.Math.abs.name) args s) = true := hE.w 952 (by decide +kernel) rfl
theorem wd_953 {s : State} (hE : EX s) {args : Array Value} : (Cond.before (.code Lib.Math.abs.name Lib.Math.abs.code 1 (some .int)) args s) = true := hE.w 953 (by decide +kernel) rfl
theorem wd_954 {s : State} (hE : EX s) {args : Array Value} : (Cond.before (.methodLink RX11 239 yX2_append) args s) = true := hE.w 954 (by decide +kernel) rfl
theorem wd_955 {s : State} (hE : EX s) {args : Array Value} : (Cond.before (.methodLink RX11 242 yX2_appendTurned) args s) = true := hE.w 955 (by decide +kernel) rfl
theorem wd_960 {s : State} (hE : EX s) {args : Array Value} : (Cond.before (.methodLink RX11 245 yX2_shrink) args s) = true := hE.w 960 (by decide +kernel) rfl
theorem wd_961 {s : State} (hE : EX s) {args : Array Value} : (Cond.before (.static yX2_shrink) args s) = true := hE.w 961 (by decide +kernel) rfl
theorem wd_962 {s : State} (hE : EX s) {args : Array Value} : (Cond.before (.code yX2_shrink cX2_shrink 5 none) args s) = true := hE.w 962 (by decide +kernel) rfl
theorem wd_963 {s : State} (hE : EX s) {args : Array Value} : (Cond.before (.methodLink RX2 93 yX2_canShrink) args s) = true := hE.w 963 (by decide +kernel) rfl
theorem wd_964 {s : State} (hE : EX s) {args : Array Value} : (Cond.before (.static yX2_canShrink) args s) = true := hE.w 964 (by decide +kernel) rfl
theorem wd_965 {s : State} (hE : EX s) {args : Array Value} : (Cond.before (.code yX2_canShrink cX2_canShrink 3 (some .boolean)) args s) = true := hE.w 965 (by decide +kernel) rfl
theorem wd_966 {s : State} (hE : EX s) {args : Array Value} : (Cond.before (.methodLink RX2 100 yX2_seam) args s) = true := hE.w 966 (by decide +kernel) rfl
theorem wd_967 {s : State} (hE : EX s) {args : Array Value} : (Cond.before (.static yX2_seam) args s) = true := hE.w 967 (by decide +kernel) rfl
theorem wd_968 {s : State} (hE : EX s) {args : Array Value} : (Cond.before (.code yX2_seam cX2_seam 2 (some .int)) args s) = true := hE.w 968 (by decide +kernel) rfl
theorem wd_969 {s : State} (hE : EX s) {args : Array Value} : (Cond.before (.methodLink RX2 97 yX2_cutEnds) args s) = true := hE.w 969 (by decide +kernel) rfl
theorem wd_970 {s : State} (hE : EX s) {args : Array Value} : (Cond.before (.static yX2_cutEnds) args s) = true := hE.w 970 (by decide +kernel) rfl
theorem wd_971 {s : State} (hE : EX s) {args : Array Value} : (Cond.before (.code yX2_cutEnds cX2_cutEnds 7 none) args s) = true := hE.w 971 (by decide +kernel) rfl
theorem wd_976 {s : State} (hE : EX s) {args : Array Value} : (Cond.before (.methodLink RX11 248 yX1_loops) args s) = true := hE.w 976 (by decide +kernel) rfl
theorem wd_977 {s : State} (hE : EX s) {args : Array Value} : (Cond.before (.instanceMethod yX1_loops) args s) = true := hE.w 977 (by decide +kernel) rfl
theorem wd_978 {s : State} (hE : EX s) {args : Array Value} : (Cond.before (.selects RX1 yX1_loops yX1_loops) args s) = true := hE.w 978 (by decide +kernel) rfl
theorem wd_979 {s : State} (hE : EX s) {args : Array Value} : (Cond.before (.code yX1_loops cX1_loops 4 (some .long)) args s) = true := hE.w 979 (by decide +kernel) rfl
theorem wd_980 {s : State} (hE : EX s) {args : Array Value} : (Cond.before (.methodLink RX1 51 yX1_fillLoops) args s) = true := hE.w 980 (by decide +kernel) rfl
theorem wd_982 {s : State} (hE : EX s) {args : Array Value} : (Cond.before (.instanceMethod yX1_fillLoops) args s) = true := hE.w 982 (by decide +kernel) rfl
theorem wd_983 {s : State} (hE : EX s) {args : Array Value} : (Cond.before (.code yX1_fillLoops cX1_fillLoops 7 none) args s) = true := hE.w 983 (by decide +kernel) rfl
theorem wd_984 {s : State} (hE : EX s) {args : Array Value} : (Cond.before (.methodLink RX1 37 yX7_orderAt) args s) = true := hE.w 984 (by decide +kernel) rfl
theorem wd_985 {s : State} (hE : EX s) {args : Array Value} : (Cond.before (.methodLink RX1 15 yX7_stepKinds) args s) = true := hE.w 985 (by decide +kernel) rfl
theorem wd_986 {s : State} (hE : EX s) {args : Array Value} : (Cond.before (.methodLink RX1 40 yX7_toVertex) args s) = true := hE.w 986 (by decide +kernel) rfl
theorem wd_987 {s : State} (hE : EX s) {args : Array Value} : (Cond.before (.methodLink RX1 43 yX1_setWays) args s) = true := hE.w 987 (by decide +kernel) rfl
theorem wd_989 {s : State} (hE : EX s) {args : Array Value} : (Cond.before (.instanceMethod yX1_setWays) args s) = true := hE.w 989 (by decide +kernel) rfl
theorem wd_990 {s : State} (hE : EX s) {args : Array Value} : (Cond.before (.code yX1_setWays cX1_setWays 6 none) args s) = true := hE.w 990 (by decide +kernel) rfl
theorem wd_991 {s : State} (hE : EX s) {args : Array Value} : (Cond.before (.methodLink RX1 47 yX1_waysFrom) args s) = true := hE.w 991 (by decide +kernel) rfl
theorem wd_993 {s : State} (hE : EX s) {args : Array Value} : (Cond.before (.instanceMethod yX1_waysFrom) args s) = true := hE.w 993 (by decide +kernel) rfl
theorem wd_994 {s : State} (hE : EX s) {args : Array Value} : (Cond.before (.code yX1_waysFrom cX1_waysFrom 8 (some .long)) args s) = true := hE.w 994 (by decide +kernel) rfl
theorem wd_995 {s : State} (hE : EX s) {args : Array Value} : (Cond.before (.methodLink RX1 21 yX7_fromVertex) args s) = true := hE.w 995 (by decide +kernel) rfl
theorem wd_996 {s : State} (hE : EX s) {args : Array Value} : (Cond.before (.methodLink RX1 25 yX7_widthBehind) args s) = true := hE.w 996 (by decide +kernel) rfl
theorem wd_997 {s : State} (hE : EX s) {args : Array Value} : (Cond.before (.instanceMethod yX7_widthBehind) args s) = true := hE.w 997 (by decide +kernel) rfl
theorem wd_998 {s : State} (hE : EX s) {args : Array Value} : (Cond.before (.selects RX7 yX7_widthBehind yX7_widthBehind) args s) = true := hE.w 998 (by decide +kernel) rfl
theorem wd_999 {s : State} (hE : EX s) {args : Array Value} : (Cond.before (.code yX7_widthBehind cX7_widthBehind 3 (some .int)) args s) = true := hE.w 999 (by decide +kernel) rfl
theorem wd_1000 {s : State} (hE : EX s) {args : Array Value} : (Cond.before (.methodLink RX7 47 yX7_fromIndex) args s) = true := hE.w 1000 (by decide +kernel) rfl
theorem wd_1001 {s : State} (hE : EX s) : va_Nw (.methodLinkNest RX7 50 yX11_opposite RX11) s := hE.n 1001 (by decide +kernel)
theorem wd_1002 {s : State} (hE : EX s) : va_Nw (.methodLinkNest RX7 53 yX11_bit RX11) s := hE.n 1002 (by decide +kernel)
theorem wd_1003 {s : State} (hE : EX s) {args : Array Value} : (Cond.before (.methodLink RX1 29 yX1_waysBehind) args s) = true := hE.w 1003 (by decide +kernel) rfl
theorem wd_1005 {s : State} (hE : EX s) {args : Array Value} : (Cond.before (.instanceMethod yX1_waysBehind) args s) = true := hE.w 1005 (by decide +kernel) rfl
theorem wd_1006 {s : State} (hE : EX s) {args : Array Value} : (Cond.before (.code yX1_waysBehind cX1_waysBehind 4 (some .long)) args s) = true := hE.w 1006 (by decide +kernel) rfl
theorem wd_1007 {s : State} (hE : EX s) : va_Nw (.methodLinkNest RX1 33 yX11_atMostTold RX11) s := hE.n 1007 (by decide +kernel)
theorem wd_1008 {s : State} (hE : EX s) {args : Array Value} : (Cond.before (.static yX11_atMostTold) args s) = true := hE.w 1008 (by decide +kernel) rfl
theorem wd_1009 {s : State} (hE : EX s) {args : Array Value} : (Cond.before (.code yX11_atMostTold cX11_atMostTold 2 (some .long)) args s) = true := hE.w 1009 (by decide +kernel) rfl
theorem wd_1010 {s : State} (hE : EX s) {args : Array Value} : (Cond.before (.constantLong RX11 368 (1000000000000)) args s) = true := hE.w 1010 (by decide +kernel) rfl
theorem wd_1011 {s : State} (hE : EX s) {args : Array Value} : (Cond.before (.methodLink RX11 370 Lib.MathLoose.min_long.x) args s) = true := hE.w 1011 (by decide +kernel) rfl
theorem wd_1012 {s : State} (hE : EX s) {args : Array Value} : (Cond.before (.static Lib.MathLoose.min_long.x) args s) = true := hE.w 1012 (by decide +kernel) rfl
theorem wd_1013 {s : State} (hE : EX s) {args : Array Value} : (Cond.before (.code Lib.MathLoose.min_long.x Lib.MathLoose.min_long.code 4 (some .long)) args s) = true := hE.w 1013 (by decide +kernel) rfl
theorem wd_1014 {s : State} (hE : EX s) {args : Array Value} : (Cond.before (.methodLink RX11 252 yX1_find) args s) = true := hE.w 1014 (by decide +kernel) rfl
theorem wd_1015 {s : State} (hE : EX s) {args : Array Value} : (Cond.before (.instanceMethod yX1_find) args s) = true := hE.w 1015 (by decide +kernel) rfl
theorem wd_1016 {s : State} (hE : EX s) {args : Array Value} : (Cond.before (.selects RX1 yX1_find yX1_find) args s) = true := hE.w 1016 (by decide +kernel) rfl
theorem wd_1017 {s : State} (hE : EX s) {args : Array Value} : (Cond.before (.code yX1_find cX1_find 9 none) args s) = true := hE.w 1017 (by decide +kernel) rfl
theorem wd_1018 {s : State} (hE : EX s) {args : Array Value} : (Cond.before (.methodLink RX1 85 yX10_start) args s) = true := hE.w 1018 (by decide +kernel) rfl
theorem wd_1019 {s : State} (hE : EX s) {args : Array Value} : (Cond.before (.methodLink RX1 89 yX1_findStep) args s) = true := hE.w 1019 (by decide +kernel) rfl
theorem wd_1021 {s : State} (hE : EX s) {args : Array Value} : (Cond.before (.instanceMethod yX1_findStep) args s) = true := hE.w 1021 (by decide +kernel) rfl
theorem wd_1022 {s : State} (hE : EX s) {args : Array Value} : (Cond.before (.code yX1_findStep cX1_findStep 15 (some .long)) args s) = true := hE.w 1022 (by decide +kernel) rfl
theorem wd_1023 {s : State} (hE : EX s) {args : Array Value} : (Cond.before (.methodLink RX1 96 yX7_endOf) args s) = true := hE.w 1023 (by decide +kernel) rfl
theorem wd_1024 {s : State} (hE : EX s) {args : Array Value} : (Cond.before (.methodLink RX1 100 yX10_lastStep) args s) = true := hE.w 1024 (by decide +kernel) rfl
theorem wd_1025 {s : State} (hE : EX s) {args : Array Value} : (Cond.before (.methodLink RX1 61 yX10_size) args s) = true := hE.w 1025 (by decide +kernel) rfl
theorem wd_1026 {s : State} (hE : EX s) : va_Nw (.methodLinkNest RX1 75 yX11_opposite RX11) s := hE.n 1026 (by decide +kernel)
theorem wd_1027 {s : State} (hE : EX s) : va_Nw (.methodLinkNest RX1 78 yX11_bit RX11) s := hE.n 1027 (by decide +kernel)
theorem wd_1028 {s : State} (hE : EX s) {args : Array Value} : (Cond.before (.methodLink RX1 93 yX10_putNumber) args s) = true := hE.w 1028 (by decide +kernel) rfl
theorem wd_1029 {s : State} (hE : EX s) {args : Array Value} : (Cond.before (.methodLink RX1 103 yX10_push) args s) = true := hE.w 1029 (by decide +kernel) rfl
theorem wd_1034 {s : State} (hE : EX s) {args : Array Value} : (Cond.before (.methodLink RX11 256 yX7_hasWord) args s) = true := hE.w 1034 (by decide +kernel) rfl
theorem wd_1035 {s : State} (hE : EX s) {args : Array Value} : (Cond.before (.methodLink RX11 259 yX7_removeWord) args s) = true := hE.w 1035 (by decide +kernel) rfl
theorem wd_1036 {s : State} (hE : EX s) {args : Array Value} : (Cond.before (.instanceMethod yX7_removeWord) args s) = true := hE.w 1036 (by decide +kernel) rfl
theorem wd_1037 {s : State} (hE : EX s) {args : Array Value} : (Cond.before (.selects RX7 yX7_removeWord yX7_removeWord) args s) = true := hE.w 1037 (by decide +kernel) rfl
theorem wd_1038 {s : State} (hE : EX s) {args : Array Value} : (Cond.before (.code yX7_removeWord cX7_removeWord 4 none) args s) = true := hE.w 1038 (by decide +kernel) rfl
theorem wd_1043 {s : State} (hE : EX s) {args : Array Value} : (Cond.before (.methodLink RX11 262 yX3_pop) args s) = true := hE.w 1043 (by decide +kernel) rfl
theorem wd_1044 {s : State} (hE : EX s) {args : Array Value} : (Cond.before (.instanceMethod yX3_pop) args s) = true := hE.w 1044 (by decide +kernel) rfl
theorem wd_1045 {s : State} (hE : EX s) {args : Array Value} : (Cond.before (.selects RX3 yX3_pop yX3_pop) args s) = true := hE.w 1045 (by decide +kernel) rfl
theorem wd_1046 {s : State} (hE : EX s) {args : Array Value} : (Cond.before (.code yX3_pop cX3_pop 3 (some .boolean)) args s) = true := hE.w 1046 (by decide +kernel) rfl
theorem wd_1051 {s : State} (hE : EX s) {args : Array Value} : (Cond.before (.methodLink RX11 266 yX3_copyFrom) args s) = true := hE.w 1051 (by decide +kernel) rfl
theorem wd_1052 {s : State} (hE : EX s) {args : Array Value} : (Cond.before (.instanceMethod yX3_copyFrom) args s) = true := hE.w 1052 (by decide +kernel) rfl
theorem wd_1053 {s : State} (hE : EX s) {args : Array Value} : (Cond.before (.selects RX3 yX3_copyFrom yX3_copyFrom) args s) = true := hE.w 1053 (by decide +kernel) rfl
theorem wd_1054 {s : State} (hE : EX s) {args : Array Value} : (Cond.before (.code yX3_copyFrom cX3_copyFrom 4 none) args s) = true := hE.w 1054 (by decide +kernel) rfl
theorem wd_1055 {s : State} (hE : EX s) {args : Array Value} : (Cond.before (.methodLink RX3 37 yX3_push) args s) = true := hE.w 1055 (by decide +kernel) rfl
theorem wd_1064 {s : State} (hE : EX s) {args : Array Value} : (Cond.before (.methodLink RX11 269 yX11_isForm) args s) = true := hE.w 1064 (by decide +kernel) rfl
theorem wd_1066 {s : State} (hE : EX s) {args : Array Value} : (Cond.before (.instanceMethod yX11_isForm) args s) = true := hE.w 1066 (by decide +kernel) rfl
theorem wd_1067 {s : State} (hE : EX s) {args : Array Value} : (Cond.before (.code yX11_isForm cX11_isForm 3 (some .boolean)) args s) = true := hE.w 1067 (by decide +kernel) rfl
theorem wd_1076 {s : State} (hE : EX s) {args : Array Value} : (Cond.before (.methodLink RX11 273 yX11_readCore) args s) = true := hE.w 1076 (by decide +kernel) rfl
theorem wd_1078 {s : State} (hE : EX s) {args : Array Value} : (Cond.before (.instanceMethod yX11_readCore) args s) = true := hE.w 1078 (by decide +kernel) rfl
theorem wd_1079 {s : State} (hE : EX s) {args : Array Value} : (Cond.before (.code yX11_readCore cX11_readCore 3 (some .int)) args s) = true := hE.w 1079 (by decide +kernel) rfl
theorem wd_1084 {s : State} (hE : EX s) {args : Array Value} : (Cond.before (.methodLink RX11 276 yX11_orderIn) args s) = true := hE.w 1084 (by decide +kernel) rfl
theorem wd_1085 {s : State} (hE : EX s) {args : Array Value} : (Cond.before (.static yX11_orderIn) args s) = true := hE.w 1085 (by decide +kernel) rfl
theorem wd_1086 {s : State} (hE : EX s) {args : Array Value} : (Cond.before (.code yX11_orderIn cX11_orderIn 2 (some .int)) args s) = true := hE.w 1086 (by decide +kernel) rfl
theorem wd_1087 {s : State} (hE : EX s) {args : Array Value} : (Cond.before (.methodLink RX11 361 yX11_greatestDivisor) args s) = true := hE.w 1087 (by decide +kernel) rfl
theorem wd_1088 {s : State} (hE : EX s) {args : Array Value} : (Cond.before (.static yX11_greatestDivisor) args s) = true := hE.w 1088 (by decide +kernel) rfl
theorem wd_1089 {s : State} (hE : EX s) {args : Array Value} : (Cond.before (.code yX11_greatestDivisor cX11_greatestDivisor 11 (some .long)) args s) = true := hE.w 1089 (by decide +kernel) rfl
theorem wd_1090 {s : State} (hE : EX s) {args : Array Value} : (Cond.before (.methodLink RX11 359 Lib.MathLoose.abs_long.x) args s) = true := hE.w 1090 (by decide +kernel) rfl
theorem wd_1091 {s : State} (hE : EX s) {args : Array Value} : (Cond.before (.static Lib.MathLoose.abs_long.x) args s) = true := hE.w 1091 (by decide +kernel) rfl
theorem wd_1092 {s : State} (hE : EX s) {args : Array Value} : (Cond.before (.code Lib.MathLoose.abs_long.x Lib.MathLoose.abs_long.code 2 (some .long)) args s) = true := hE.w 1092 (by decide +kernel) rfl
theorem wd_1093 {s : State} (hE : EX s) {args : Array Value} : (Cond.before (.methodLink RX11 365 yX11_share) args s) = true := hE.w 1093 (by decide +kernel) rfl
theorem wd_1098 {s : State} (hE : EX s) {args : Array Value} : (Cond.before (.methodLink RX11 279 yX11_readTwoLoops) args s) = true := hE.w 1098 (by decide +kernel) rfl
theorem wd_1100 {s : State} (hE : EX s) {args : Array Value} : (Cond.before (.instanceMethod yX11_readTwoLoops) args s) = true := hE.w 1100 (by decide +kernel) rfl
theorem wd_1101 {s : State} (hE : EX s) {args : Array Value} : (Cond.before (.code yX11_readTwoLoops cX11_readTwoLoops 3 (some .int)) args s) = true := hE.w 1101 (by decide +kernel) rfl
theorem wd_1102 {s : State} (hE : EX s) {args : Array Value} : (Cond.before (.methodLink RX11 282 yX4_start) args s) = true := hE.w 1102 (by decide +kernel) rfl
theorem wd_1103 {s : State} (hE : EX s) {args : Array Value} : (Cond.before (.instanceMethod yX4_start) args s) = true := hE.w 1103 (by decide +kernel) rfl
theorem wd_1104 {s : State} (hE : EX s) {args : Array Value} : (Cond.before (.selects RX4 yX4_start yX4_start) args s) = true := hE.w 1104 (by decide +kernel) rfl
theorem wd_1105 {s : State} (hE : EX s) {args : Array Value} : (Cond.before (.code yX4_start cX4_start 3 none) args s) = true := hE.w 1105 (by decide +kernel) rfl
theorem wd_1106 {s : State} (hE : EX s) {args : Array Value} : (Cond.before (.methodLink RX4 45 yX2_shrink) args s) = true := hE.w 1106 (by decide +kernel) rfl
theorem wd_1107 {s : State} (hE : EX s) {args : Array Value} : (Cond.before (.methodLink RX4 51 yX10_size) args s) = true := hE.w 1107 (by decide +kernel) rfl
theorem wd_1108 {s : State} (hE : EX s) {args : Array Value} : (Cond.before (.methodLink RX4 55 yX4_spread) args s) = true := hE.w 1108 (by decide +kernel) rfl
theorem wd_1110 {s : State} (hE : EX s) {args : Array Value} : (Cond.before (.instanceMethod yX4_spread) args s) = true := hE.w 1110 (by decide +kernel) rfl
theorem wd_1111 {s : State} (hE : EX s) {args : Array Value} : (Cond.before (.code yX4_spread cX4_spread 5 none) args s) = true := hE.w 1111 (by decide +kernel) rfl
theorem wd_1112 {s : State} (hE : EX s) {args : Array Value} : (Cond.before (.methodLink RX4 90 yX10_numberAt) args s) = true := hE.w 1112 (by decide +kernel) rfl
theorem wd_1113 {s : State} (hE : EX s) {args : Array Value} : (Cond.before (.methodLink RX4 81 yX10_begin) args s) = true := hE.w 1113 (by decide +kernel) rfl
theorem wd_1114 {s : State} (hE : EX s) {args : Array Value} : (Cond.before (.methodLink RX4 84 yX7_orderAt) args s) = true := hE.w 1114 (by decide +kernel) rfl
theorem wd_1115 {s : State} (hE : EX s) : va_Nw (.methodLinkNest RX4 110 yX11_orderIn RX11) s := hE.n 1115 (by decide +kernel)
theorem wd_1116 {s : State} (hE : EX s) {args : Array Value} : (Cond.before (.methodLink RX4 113 yJ7_fill_53178) args s) = true := hE.w 1116 (by decide +kernel) rfl
theorem wd_1117 {s : State} (hE : EX s) {args : Array Value} : (Cond.before (.methodLink RX4 119 yX4_setFar) args s) = true := hE.w 1117 (by decide +kernel) rfl
theorem wd_1119 {s : State} (hE : EX s) {args : Array Value} : (Cond.before (.instanceMethod yX4_setFar) args s) = true := hE.w 1119 (by decide +kernel) rfl
theorem wd_1120 {s : State} (hE : EX s) {args : Array Value} : (Cond.before (.code yX4_setFar cX4_setFar 3 none) args s) = true := hE.w 1120 (by decide +kernel) rfl
theorem wd_1121 {s : State} (hE : EX s) {args : Array Value} : (Cond.before (.methodLink RX4 122 yX7_stepKinds) args s) = true := hE.w 1121 (by decide +kernel) rfl
theorem wd_1122 {s : State} (hE : EX s) {args : Array Value} : (Cond.before (.methodLink RX4 125 yX7_fromVertex) args s) = true := hE.w 1122 (by decide +kernel) rfl
theorem wd_1123 {s : State} (hE : EX s) {args : Array Value} : (Cond.before (.methodLink RX4 107 yX4_farOf) args s) = true := hE.w 1123 (by decide +kernel) rfl
theorem wd_1125 {s : State} (hE : EX s) {args : Array Value} : (Cond.before (.instanceMethod yX4_farOf) args s) = true := hE.w 1125 (by decide +kernel) rfl
theorem wd_1126 {s : State} (hE : EX s) {args : Array Value} : (Cond.before (.code yX4_farOf cX4_farOf 2 (some .int)) args s) = true := hE.w 1126 (by decide +kernel) rfl
theorem wd_1127 {s : State} (hE : EX s) {args : Array Value} : (Cond.before (.methodLink RX4 128 yX7_toVertex) args s) = true := hE.w 1127 (by decide +kernel) rfl
theorem wd_1128 {s : State} (hE : EX s) {args : Array Value} : (Cond.before (.methodLink RX4 131 yX7_common) args s) = true := hE.w 1128 (by decide +kernel) rfl
theorem wd_1129 {s : State} (hE : EX s) : va_Nw (.methodLinkNest RX4 96 yX11_rest RX11) s := hE.n 1129 (by decide +kernel)
theorem wd_1130 {s : State} (hE : EX s) {args : Array Value} : (Cond.before (.methodLink RX11 285 yX4_reaches) args s) = true := hE.w 1130 (by decide +kernel) rfl
theorem wd_1131 {s : State} (hE : EX s) {args : Array Value} : (Cond.before (.instanceMethod yX4_reaches) args s) = true := hE.w 1131 (by decide +kernel) rfl
theorem wd_1132 {s : State} (hE : EX s) {args : Array Value} : (Cond.before (.selects RX4 yX4_reaches yX4_reaches) args s) = true := hE.w 1132 (by decide +kernel) rfl
theorem wd_1133 {s : State} (hE : EX s) {args : Array Value} : (Cond.before (.code yX4_reaches cX4_reaches 3 (some .boolean)) args s) = true := hE.w 1133 (by decide +kernel) rfl
theorem wd_1134 {s : State} (hE : EX s) {args : Array Value} : (Cond.before (.methodLink RX4 59 yX4_reachesNumber) args s) = true := hE.w 1134 (by decide +kernel) rfl
theorem wd_1136 {s : State} (hE : EX s) {args : Array Value} : (Cond.before (.instanceMethod yX4_reachesNumber) args s) = true := hE.w 1136 (by decide +kernel) rfl
theorem wd_1137 {s : State} (hE : EX s) {args : Array Value} : (Cond.before (.code yX4_reachesNumber cX4_reachesNumber 4 (some .boolean)) args s) = true := hE.w 1137 (by decide +kernel) rfl
theorem wd_1138 {s : State} (hE : EX s) {args : Array Value} : (Cond.before (.methodLink RX4 63 yX4_reachesSteps) args s) = true := hE.w 1138 (by decide +kernel) rfl
theorem wd_1140 {s : State} (hE : EX s) {args : Array Value} : (Cond.before (.instanceMethod yX4_reachesSteps) args s) = true := hE.w 1140 (by decide +kernel) rfl
theorem wd_1141 {s : State} (hE : EX s) {args : Array Value} : (Cond.before (.code yX4_reachesSteps cX4_reachesSteps 3 (some .boolean)) args s) = true := hE.w 1141 (by decide +kernel) rfl
theorem wd_1142 {s : State} (hE : EX s) {args : Array Value} : (Cond.before (.methodLink RX4 66 yX0_aim) args s) = true := hE.w 1142 (by decide +kernel) rfl
theorem wd_1143 {s : State} (hE : EX s) {args : Array Value} : (Cond.before (.instanceMethod yX0_aim) args s) = true := hE.w 1143 (by decide +kernel) rfl
theorem wd_1144 {s : State} (hE : EX s) {args : Array Value} : (Cond.before (.selects RX0 yX0_aim yX0_aim) args s) = true := hE.w 1144 (by decide +kernel) rfl
theorem wd_1145 {s : State} (hE : EX s) {args : Array Value} : (Cond.before (.code yX0_aim cX0_aim 5 none) args s) = true := hE.w 1145 (by decide +kernel) rfl
theorem wd_1146 {s : State} (hE : EX s) {args : Array Value} : (Cond.before (.methodLink RX0 31 yX10_size) args s) = true := hE.w 1146 (by decide +kernel) rfl
theorem wd_1147 {s : State} (hE : EX s) {args : Array Value} : (Cond.before (.methodLink RX0 35 yX10_stepAt) args s) = true := hE.w 1147 (by decide +kernel) rfl
theorem wd_1148 {s : State} (hE : EX s) {args : Array Value} : (Cond.before (.methodLink RX0 39 yX7_fromIndex) args s) = true := hE.w 1148 (by decide +kernel) rfl
theorem wd_1149 {s : State} (hE : EX s) {args : Array Value} : (Cond.before (.methodLink RX0 44 yX7_toIndex) args s) = true := hE.w 1149 (by decide +kernel) rfl
theorem wd_1150 {s : State} (hE : EX s) {args : Array Value} : (Cond.before (.methodLink RX0 47 yX7_toVertex) args s) = true := hE.w 1150 (by decide +kernel) rfl
theorem wd_1151 {s : State} (hE : EX s) {args : Array Value} : (Cond.before (.methodLink RX0 50 yX7_orderAt) args s) = true := hE.w 1151 (by decide +kernel) rfl
theorem wd_1152 {s : State} (hE : EX s) {args : Array Value} : (Cond.before (.methodLink RX4 70 yX2_beginBehind) args s) = true := hE.w 1152 (by decide +kernel) rfl
theorem wd_1153 {s : State} (hE : EX s) {args : Array Value} : (Cond.before (.static yX2_beginBehind) args s) = true := hE.w 1153 (by decide +kernel) rfl
theorem wd_1154 {s : State} (hE : EX s) {args : Array Value} : (Cond.before (.code yX2_beginBehind cX2_beginBehind 5 none) args s) = true := hE.w 1154 (by decide +kernel) rfl
theorem wd_1155 {s : State} (hE : EX s) {args : Array Value} : (Cond.before (.methodLink RX4 74 yX10_sameSteps) args s) = true := hE.w 1155 (by decide +kernel) rfl
theorem wd_1156 {s : State} (hE : EX s) {args : Array Value} : (Cond.before (.methodLink RX4 78 yX4_findNumber) args s) = true := hE.w 1156 (by decide +kernel) rfl
theorem wd_1158 {s : State} (hE : EX s) {args : Array Value} : (Cond.before (.instanceMethod yX4_findNumber) args s) = true := hE.w 1158 (by decide +kernel) rfl
theorem wd_1159 {s : State} (hE : EX s) {args : Array Value} : (Cond.before (.code yX4_findNumber cX4_findNumber 6 (some .boolean)) args s) = true := hE.w 1159 (by decide +kernel) rfl
theorem wd_1160 {s : State} (hE : EX s) {args : Array Value} : (Cond.before (.methodLink RX4 93 yX10_lastNumber) args s) = true := hE.w 1160 (by decide +kernel) rfl
theorem wd_1161 {s : State} (hE : EX s) {args : Array Value} : (Cond.before (.methodLink RX4 100 yX10_putNumber) args s) = true := hE.w 1161 (by decide +kernel) rfl
theorem wd_1162 {s : State} (hE : EX s) {args : Array Value} : (Cond.before (.methodLink RX4 104 yX0_hits) args s) = true := hE.w 1162 (by decide +kernel) rfl
theorem wd_1163 {s : State} (hE : EX s) {args : Array Value} : (Cond.before (.instanceMethod yX0_hits) args s) = true := hE.w 1163 (by decide +kernel) rfl
theorem wd_1164 {s : State} (hE : EX s) {args : Array Value} : (Cond.before (.selects RX0 yX0_hits yX0_hits) args s) = true := hE.w 1164 (by decide +kernel) rfl
theorem wd_1165 {s : State} (hE : EX s) {args : Array Value} : (Cond.before (.code yX0_hits cX0_hits 5 (some .boolean)) args s) = true := hE.w 1165 (by decide +kernel) rfl
theorem wd_1166 {s : State} (hE : EX s) {args : Array Value} : (Cond.before (.methodLink RX0 53 yX10_numberAt) args s) = true := hE.w 1166 (by decide +kernel) rfl
theorem wd_1167 {s : State} (hE : EX s) : va_Nw (.methodLinkNest RX0 56 yX11_rest RX11) s := hE.n 1167 (by decide +kernel)
theorem wd_1168 {s : State} (hE : EX s) : va_Nw (.methodLinkNest RX0 60 yX11_share RX11) s := hE.n 1168 (by decide +kernel)
theorem wd_1169 {s : State} (hE : EX s) {args : Array Value} : (Cond.before (.methodLink RX0 63 yX10_lastNumber) args s) = true := hE.w 1169 (by decide +kernel) rfl
theorem wd_1174 {s : State} (hE : EX s) {args : Array Value} : (Cond.before (.methodLink RX11 289 yX4_begunBehind) args s) = true := hE.w 1174 (by decide +kernel) rfl
theorem wd_1175 {s : State} (hE : EX s) {args : Array Value} : (Cond.before (.instanceMethod yX4_begunBehind) args s) = true := hE.w 1175 (by decide +kernel) rfl
theorem wd_1176 {s : State} (hE : EX s) {args : Array Value} : (Cond.before (.selects RX4 yX4_begunBehind yX4_begunBehind) args s) = true := hE.w 1176 (by decide +kernel) rfl
theorem wd_1177 {s : State} (hE : EX s) {args : Array Value} : (Cond.before (.code yX4_begunBehind cX4_begunBehind 1 (some .int)) args s) = true := hE.w 1177 (by decide +kernel) rfl
theorem wd_1178 {s : State} (hE : EX s) {args : Array Value} : (Cond.before (.methodLink RX11 292 yX4_numberTaken) args s) = true := hE.w 1178 (by decide +kernel) rfl
theorem wd_1179 {s : State} (hE : EX s) {args : Array Value} : (Cond.before (.instanceMethod yX4_numberTaken) args s) = true := hE.w 1179 (by decide +kernel) rfl
theorem wd_1180 {s : State} (hE : EX s) {args : Array Value} : (Cond.before (.selects RX4 yX4_numberTaken yX4_numberTaken) args s) = true := hE.w 1180 (by decide +kernel) rfl
theorem wd_1181 {s : State} (hE : EX s) {args : Array Value} : (Cond.before (.code yX4_numberTaken cX4_numberTaken 1 (some .int)) args s) = true := hE.w 1181 (by decide +kernel) rfl
theorem wd_1190 {s : State} (hE : EX s) {args : Array Value} : (Cond.before (.methodLink RX11 301 yX11_isBackwards) args s) = true := hE.w 1190 (by decide +kernel) rfl
theorem wd_1195 {s : State} (hE : EX s) {args : Array Value} : (Cond.before (.methodLink RX11 304 yX6_centralOrder) args s) = true := hE.w 1195 (by decide +kernel) rfl
theorem wd_1196 {s : State} (hE : EX s) {args : Array Value} : (Cond.before (.instanceMethod yX6_centralOrder) args s) = true := hE.w 1196 (by decide +kernel) rfl
theorem wd_1197 {s : State} (hE : EX s) {args : Array Value} : (Cond.before (.selects RX6 yX6_centralOrder yX6_centralOrder) args s) = true := hE.w 1197 (by decide +kernel) rfl
theorem wd_1198 {s : State} (hE : EX s) {args : Array Value} : (Cond.before (.code yX6_centralOrder cX6_centralOrder 6 (some .int)) args s) = true := hE.w 1198 (by decide +kernel) rfl
theorem wd_1199 {s : State} (hE : EX s) {args : Array Value} : (Cond.before (.methodLink RX6 59 yX7_orderAt) args s) = true := hE.w 1199 (by decide +kernel) rfl
theorem wd_1200 {s : State} (hE : EX s) {args : Array Value} : (Cond.before (.methodLink RX6 62 yX7_edges) args s) = true := hE.w 1200 (by decide +kernel) rfl
theorem wd_1201 {s : State} (hE : EX s) {args : Array Value} : (Cond.before (.methodLink RX6 65 yX7_edgePart) args s) = true := hE.w 1201 (by decide +kernel) rfl
theorem wd_1202 {s : State} (hE : EX s) {args : Array Value} : (Cond.before (.methodLink RX6 68 yX7_common) args s) = true := hE.w 1202 (by decide +kernel) rfl
theorem wd_1203 {s : State} (hE : EX s) : va_Nw (.methodLinkNest RX6 71 yX11_greatestDivisor RX11) s := hE.n 1203 (by decide +kernel)
theorem wd_1216 {s : State} (hE : EX s) {args : Array Value} : (Cond.before (.methodLink RX11 308 yX0_greatestRoot) args s) = true := hE.w 1216 (by decide +kernel) rfl
theorem wd_1217 {s : State} (hE : EX s) {args : Array Value} : (Cond.before (.instanceMethod yX0_greatestRoot) args s) = true := hE.w 1217 (by decide +kernel) rfl
theorem wd_1218 {s : State} (hE : EX s) {args : Array Value} : (Cond.before (.selects RX0 yX0_greatestRoot yX0_greatestRoot) args s) = true := hE.w 1218 (by decide +kernel) rfl
theorem wd_1219 {s : State} (hE : EX s) {args : Array Value} : (Cond.before (.code yX0_greatestRoot cX0_greatestRoot 5 (some .int)) args s) = true := hE.w 1219 (by decide +kernel) rfl
theorem wd_1220 {s : State} (hE : EX s) {args : Array Value} : (Cond.before (.methodLink RX0 66 yX0_aim) args s) = true := hE.w 1220 (by decide +kernel) rfl
theorem wd_1221 {s : State} (hE : EX s) {args : Array Value} : (Cond.before (.methodLink RX0 70 yX0_isPower) args s) = true := hE.w 1221 (by decide +kernel) rfl
theorem wd_1223 {s : State} (hE : EX s) {args : Array Value} : (Cond.before (.instanceMethod yX0_isPower) args s) = true := hE.w 1223 (by decide +kernel) rfl
theorem wd_1224 {s : State} (hE : EX s) {args : Array Value} : (Cond.before (.code yX0_isPower cX0_isPower 7 (some .boolean)) args s) = true := hE.w 1224 (by decide +kernel) rfl
theorem wd_1225 {s : State} (hE : EX s) {args : Array Value} : (Cond.before (.methodLink RX0 74 yX0_repeatFirst) args s) = true := hE.w 1225 (by decide +kernel) rfl
theorem wd_1227 {s : State} (hE : EX s) {args : Array Value} : (Cond.before (.instanceMethod yX0_repeatFirst) args s) = true := hE.w 1227 (by decide +kernel) rfl
theorem wd_1228 {s : State} (hE : EX s) {args : Array Value} : (Cond.before (.code yX0_repeatFirst cX0_repeatFirst 4 none) args s) = true := hE.w 1228 (by decide +kernel) rfl
theorem wd_1229 {s : State} (hE : EX s) {args : Array Value} : (Cond.before (.methodLink RX0 82 yX10_begin) args s) = true := hE.w 1229 (by decide +kernel) rfl
theorem wd_1230 {s : State} (hE : EX s) {args : Array Value} : (Cond.before (.methodLink RX0 92 yX10_start) args s) = true := hE.w 1230 (by decide +kernel) rfl
theorem wd_1231 {s : State} (hE : EX s) {args : Array Value} : (Cond.before (.methodLink RX0 95 yX10_push) args s) = true := hE.w 1231 (by decide +kernel) rfl
theorem wd_1232 {s : State} (hE : EX s) {args : Array Value} : (Cond.before (.methodLink RX0 78 yX10_sameSteps) args s) = true := hE.w 1232 (by decide +kernel) rfl
theorem wd_1233 {s : State} (hE : EX s) {args : Array Value} : (Cond.before (.methodLink RX0 85 yX10_putNumber) args s) = true := hE.w 1233 (by decide +kernel) rfl
theorem wd_1234 {s : State} (hE : EX s) {args : Array Value} : (Cond.before (.methodLink RX0 89 yX0_hits) args s) = true := hE.w 1234 (by decide +kernel) rfl
theorem wd_1251 {s : State} (hE : EX s) {args : Array Value} : (Cond.before (.methodLink RX11 312 yX11_readWay) args s) = true := hE.w 1251 (by decide +kernel) rfl
theorem wd_1253 {s : State} (hE : EX s) {args : Array Value} : (Cond.before (.instanceMethod yX11_readWay) args s) = true := hE.w 1253 (by decide +kernel) rfl
theorem wd_1254 {s : State} (hE : EX s) {args : Array Value} : (Cond.before (.code yX11_readWay cX11_readWay 3 (some .int)) args s) = true := hE.w 1254 (by decide +kernel) rfl
theorem wd_1263 {s : State} (hE : EX s) {args : Array Value} : (Cond.before (.methodLink RX11 315 yX7_toVertex) args s) = true := hE.w 1263 (by decide +kernel) rfl
theorem wd_1268 {s : State} (hE : EX s) {args : Array Value} : (Cond.before (.methodLink RX11 318 yX1_held) args s) = true := hE.w 1268 (by decide +kernel) rfl
theorem wd_1269 {s : State} (hE : EX s) {args : Array Value} : (Cond.before (.instanceMethod yX1_held) args s) = true := hE.w 1269 (by decide +kernel) rfl
theorem wd_1270 {s : State} (hE : EX s) {args : Array Value} : (Cond.before (.selects RX1 yX1_held yX1_held) args s) = true := hE.w 1270 (by decide +kernel) rfl
theorem wd_1271 {s : State} (hE : EX s) {args : Array Value} : (Cond.before (.code yX1_held cX1_held 12 (some .long)) args s) = true := hE.w 1271 (by decide +kernel) rfl
theorem wd_1272 {s : State} (hE : EX s) {args : Array Value} : (Cond.before (.methodLink RX1 55 yX7_common) args s) = true := hE.w 1272 (by decide +kernel) rfl
theorem wd_1273 {s : State} (hE : EX s) : va_Nw (.methodLinkNest RX1 58 yX11_rest RX11) s := hE.n 1273 (by decide +kernel)
theorem wd_1274 {s : State} (hE : EX s) {args : Array Value} : (Cond.before (.methodLink RX11 322 yX11_answerLong) args s) = true := hE.w 1274 (by decide +kernel) rfl
theorem wd_1276 {s : State} (hE : EX s) {args : Array Value} : (Cond.before (.instanceMethod yX11_answerLong) args s) = true := hE.w 1276 (by decide +kernel) rfl
theorem wd_1277 {s : State} (hE : EX s) {args : Array Value} : (Cond.before (.code yX11_answerLong cX11_answerLong 3 (some .long)) args s) = true := hE.w 1277 (by decide +kernel) rfl
theorem wd_1282 {s : State} (hE : EX s) {args : Array Value} : (Cond.before (.methodLink RX11 326 yX7_fromVertex) args s) = true := hE.w 1282 (by decide +kernel) rfl
theorem wd_1295 {s : State} (hE : EX s) {args : Array Value} : (Cond.before (.methodLink RX11 329 yX1_placeOf) args s) = true := hE.w 1295 (by decide +kernel) rfl
theorem wd_1296 {s : State} (hE : EX s) {args : Array Value} : (Cond.before (.instanceMethod yX1_placeOf) args s) = true := hE.w 1296 (by decide +kernel) rfl
theorem wd_1297 {s : State} (hE : EX s) {args : Array Value} : (Cond.before (.selects RX1 yX1_placeOf yX1_placeOf) args s) = true := hE.w 1297 (by decide +kernel) rfl
theorem wd_1298 {s : State} (hE : EX s) {args : Array Value} : (Cond.before (.code yX1_placeOf cX1_placeOf 11 (some .long)) args s) = true := hE.w 1298 (by decide +kernel) rfl
theorem wd_1299 {s : State} (hE : EX s) {args : Array Value} : (Cond.before (.methodLink RX1 66 yX10_begin) args s) = true := hE.w 1299 (by decide +kernel) rfl
theorem wd_1300 {s : State} (hE : EX s) {args : Array Value} : (Cond.before (.methodLink RX1 69 yX10_stepAt) args s) = true := hE.w 1300 (by decide +kernel) rfl
theorem wd_1301 {s : State} (hE : EX s) {args : Array Value} : (Cond.before (.methodLink RX1 72 yX10_numberAt) args s) = true := hE.w 1301 (by decide +kernel) rfl
theorem wd_1302 {s : State} (hE : EX s) {args : Array Value} : (Cond.before (.methodLink RX1 82 yX10_lastNumber) args s) = true := hE.w 1302 (by decide +kernel) rfl
theorem wd_1311 {s : State} (hE : EX s) {args : Array Value} : (Cond.before (.methodLink RX11 333 yX7_stepKinds) args s) = true := hE.w 1311 (by decide +kernel) rfl
theorem wd_1312 {s : State} (hE : EX s) {args : Array Value} : (Cond.before (.methodLink RX11 336 yX7_fromIndex) args s) = true := hE.w 1312 (by decide +kernel) rfl
theorem wd_1317 {s : State} (hE : EX s) {args : Array Value} : (Cond.before (.methodLink RX11 339 yX8_tellWord) args s) = true := hE.w 1317 (by decide +kernel) rfl
theorem wd_1318 {s : State} (hE : EX s) {args : Array Value} : (Cond.before (.instanceMethod yX8_tellWord) args s) = true := hE.w 1318 (by decide +kernel) rfl
theorem wd_1319 {s : State} (hE : EX s) {args : Array Value} : (Cond.before (.selects RX8 yX8_tellWord yX8_tellWord) args s) = true := hE.w 1319 (by decide +kernel) rfl
theorem wd_1320 {s : State} (hE : EX s) {args : Array Value} : (Cond.before (.code yX8_tellWord cX8_tellWord 3 (some .int)) args s) = true := hE.w 1320 (by decide +kernel) rfl
theorem wd_1321 {s : State} (hE : EX s) {args : Array Value} : (Cond.before (.methodLink RX8 19 yX8_put) args s) = true := hE.w 1321 (by decide +kernel) rfl
theorem wd_1323 {s : State} (hE : EX s) {args : Array Value} : (Cond.before (.instanceMethod yX8_put) args s) = true := hE.w 1323 (by decide +kernel) rfl
theorem wd_1324 {s : State} (hE : EX s) {args : Array Value} : (Cond.before (.code yX8_put cX8_put 2 none) args s) = true := hE.w 1324 (by decide +kernel) rfl
theorem wd_1325 {s : State} (hE : EX s) {args : Array Value} : (Cond.before (.methodLink RX8 23 yX10_begin) args s) = true := hE.w 1325 (by decide +kernel) rfl
theorem wd_1326 {s : State} (hE : EX s) {args : Array Value} : (Cond.before (.methodLink RX8 29 yX8_putNumber) args s) = true := hE.w 1326 (by decide +kernel) rfl
theorem wd_1328 {s : State} (hE : EX s) {args : Array Value} : (Cond.before (.instanceMethod yX8_putNumber) args s) = true := hE.w 1328 (by decide +kernel) rfl
theorem wd_1329 {s : State} (hE : EX s) {args : Array Value} : (Cond.before (.code yX8_putNumber cX8_putNumber 2 none) args s) = true := hE.w 1329 (by decide +kernel) rfl
theorem wd_1330 {s : State} (hE : EX s) : va_Nw (.methodLinkNest RX8 47 yX11_share RX11) s := hE.n 1330 (by decide +kernel)
theorem wd_1331 {s : State} (hE : EX s) : va_Nw (.methodLinkNest RX8 51 yX11_rest RX11) s := hE.n 1331 (by decide +kernel)
theorem wd_1332 {s : State} (hE : EX s) {args : Array Value} : (Cond.before (.methodLink RX8 33 yX10_numberAt) args s) = true := hE.w 1332 (by decide +kernel) rfl
theorem wd_1333 {s : State} (hE : EX s) {args : Array Value} : (Cond.before (.methodLink RX8 37 yX10_size) args s) = true := hE.w 1333 (by decide +kernel) rfl
theorem wd_1334 {s : State} (hE : EX s) {args : Array Value} : (Cond.before (.methodLink RX8 40 yX10_stepAt) args s) = true := hE.w 1334 (by decide +kernel) rfl
theorem wd_1335 {s : State} (hE : EX s) : va_Nw (.methodLinkNest RX8 43 yX11_isBackwards RX11) s := hE.n 1335 (by decide +kernel)
theorem wd_1340 {s : State} (hE : EX s) {args : Array Value} : (Cond.before (.methodLink RX11 342 yX8_size) args s) = true := hE.w 1340 (by decide +kernel) rfl
theorem wd_1341 {s : State} (hE : EX s) {args : Array Value} : (Cond.before (.instanceMethod yX8_size) args s) = true := hE.w 1341 (by decide +kernel) rfl
theorem wd_1342 {s : State} (hE : EX s) {args : Array Value} : (Cond.before (.selects RX8 yX8_size yX8_size) args s) = true := hE.w 1342 (by decide +kernel) rfl
theorem wd_1343 {s : State} (hE : EX s) {args : Array Value} : (Cond.before (.code yX8_size cX8_size 1 (some .int)) args s) = true := hE.w 1343 (by decide +kernel) rfl
theorem wd_1344 {s : State} (hE : EX s) {args : Array Value} : (Cond.before (.methodLink RX11 343 yX8_byteAt) args s) = true := hE.w 1344 (by decide +kernel) rfl
theorem wd_1345 {s : State} (hE : EX s) {args : Array Value} : (Cond.before (.instanceMethod yX8_byteAt) args s) = true := hE.w 1345 (by decide +kernel) rfl
theorem wd_1346 {s : State} (hE : EX s) {args : Array Value} : (Cond.before (.selects RX8 yX8_byteAt yX8_byteAt) args s) = true := hE.w 1346 (by decide +kernel) rfl
theorem wd_1347 {s : State} (hE : EX s) {args : Array Value} : (Cond.before (.code yX8_byteAt cX8_byteAt 2 (some .int)) args s) = true := hE.w 1347 (by decide +kernel) rfl
theorem wd_1352 {s : State} (hE : EX s) {args : Array Value} : (Cond.before (.methodLink RX11 346 yX6_weigh) args s) = true := hE.w 1352 (by decide +kernel) rfl
theorem wd_1353 {s : State} (hE : EX s) {args : Array Value} : (Cond.before (.instanceMethod yX6_weigh) args s) = true := hE.w 1353 (by decide +kernel) rfl
theorem wd_1354 {s : State} (hE : EX s) {args : Array Value} : (Cond.before (.selects RX6 yX6_weigh yX6_weigh) args s) = true := hE.w 1354 (by decide +kernel) rfl
theorem wd_1355 {s : State} (hE : EX s) {args : Array Value} : (Cond.before (.code yX6_weigh cX6_weigh 3 none) args s) = true := hE.w 1355 (by decide +kernel) rfl
theorem wd_1356 {s : State} (hE : EX s) {args : Array Value} : (Cond.before (.methodLink RX6 75 yX6_addPart) args s) = true := hE.w 1356 (by decide +kernel) rfl
theorem wd_1358 {s : State} (hE : EX s) {args : Array Value} : (Cond.before (.instanceMethod yX6_addPart) args s) = true := hE.w 1358 (by decide +kernel) rfl
theorem wd_1359 {s : State} (hE : EX s) {args : Array Value} : (Cond.before (.code yX6_addPart cX6_addPart 11 none) args s) = true := hE.w 1359 (by decide +kernel) rfl
theorem wd_1360 {s : State} (hE : EX s) {args : Array Value} : (Cond.before (.constantLong RX6 79 (-1)) args s) = true := hE.w 1360 (by decide +kernel) rfl
theorem wd_1361 {s : State} (hE : EX s) {args : Array Value} : (Cond.before (.methodLink RX11 349 yX6_above) args s) = true := hE.w 1361 (by decide +kernel) rfl
theorem wd_1362 {s : State} (hE : EX s) {args : Array Value} : (Cond.before (.instanceMethod yX6_above) args s) = true := hE.w 1362 (by decide +kernel) rfl
theorem wd_1363 {s : State} (hE : EX s) {args : Array Value} : (Cond.before (.selects RX6 yX6_above yX6_above) args s) = true := hE.w 1363 (by decide +kernel) rfl
theorem wd_1364 {s : State} (hE : EX s) {args : Array Value} : (Cond.before (.code yX6_above cX6_above 1 (some .long)) args s) = true := hE.w 1364 (by decide +kernel) rfl
theorem wd_1365 {s : State} (hE : EX s) {args : Array Value} : (Cond.before (.methodLink RX11 353 yX6_below) args s) = true := hE.w 1365 (by decide +kernel) rfl
theorem wd_1366 {s : State} (hE : EX s) {args : Array Value} : (Cond.before (.instanceMethod yX6_below) args s) = true := hE.w 1366 (by decide +kernel) rfl
theorem wd_1367 {s : State} (hE : EX s) {args : Array Value} : (Cond.before (.selects RX6 yX6_below yX6_below) args s) = true := hE.w 1367 (by decide +kernel) rfl
theorem wd_1368 {s : State} (hE : EX s) {args : Array Value} : (Cond.before (.code yX6_below cX6_below 1 (some .long)) args s) = true := hE.w 1368 (by decide +kernel) rfl
