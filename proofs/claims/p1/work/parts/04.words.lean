theorem ly_X7 {s : State} (hE : EX s) {args : Array Value} : ∀ w ∈ wsX70, w.before args s = true := hE.lay [150] (by decide +kernel) (by decide +kernel)
theorem ly_X11 {s : State} (hE : EX s) {args : Array Value} : ∀ w ∈ wsX110, w.before args s = true := hE.lay [378, 380, 382, 384, 386, 388, 390, 392, 394, 396, 398, 400, 402, 404, 406, 408, 410, 412, 414] (by decide +kernel) (by decide +kernel)
theorem ly_X3 {s : State} (hE : EX s) {args : Array Value} : ∀ w ∈ wsX30, w.before args s = true := hE.lay [166, 168, 170] (by decide +kernel) (by decide +kernel)
theorem ly_X5 {s : State} (hE : EX s) {args : Array Value} : ∀ w ∈ wsX50, w.before args s = true := hE.lay [237, 239, 241, 243, 245, 247, 249, 251, 253, 255] (by decide +kernel) (by decide +kernel)
theorem ly_X9 {s : State} (hE : EX s) {args : Array Value} : ∀ w ∈ wsX90, w.before args s = true := hE.lay [192, 194, 196, 198, 200, 202] (by decide +kernel) (by decide +kernel)
theorem ly_X10 {s : State} (hE : EX s) {args : Array Value} : ∀ w ∈ wsX100, w.before args s = true := hE.lay [218, 220, 222, 224] (by decide +kernel) (by decide +kernel)
theorem ly_X8 {s : State} (hE : EX s) {args : Array Value} : ∀ w ∈ wsX80, w.before args s = true := hE.lay [266, 268] (by decide +kernel) (by decide +kernel)
theorem ly_X4 {s : State} (hE : EX s) {args : Array Value} : ∀ w ∈ wsX40, w.before args s = true := hE.lay [313, 315, 317, 319, 321, 323, 325, 327] (by decide +kernel) (by decide +kernel)
theorem ly_X0 {s : State} (hE : EX s) {args : Array Value} : ∀ w ∈ wsX00, w.before args s = true := hE.lay [294, 296, 298, 300, 302] (by decide +kernel) (by decide +kernel)
theorem ly_X6 {s : State} (hE : EX s) {args : Array Value} : ∀ w ∈ wsX60, w.before args s = true := hE.lay [341, 343, 345] (by decide +kernel) (by decide +kernel)
theorem ly_X1 {s : State} (hE : EX s) {args : Array Value} : ∀ w ∈ wsX10, w.before args s = true := hE.lay [355] (by decide +kernel) (by decide +kernel)
theorem ly_X12 {s : State} (hE : EX s) {args : Array Value} : ∀ w ∈ wsX120, w.before args s = true := hE.lay [1412, 1414, 1416, 1418, 1420, 1422, 1424, 1426, 1428, 1430, 1432, 1434, 1436, 1438, 1440, 1442, 1444, 1446, 1448, 1450, 1452, 1454, 1456, 1458, 1460, 1462, 1464, 1466, 1468, 1470, 1472] (by decide +kernel) (by decide +kernel)
theorem wd_0 {s : State} (hE : EX s) {args : Array Value} : (Cond.before (.selects RX11 yX11_feedFour yX11_feedFour) args s) = true := hE.w 0 (by decide +kernel) rfl
theorem wd_1 {s : State} (hE : EX s) {args : Array Value} : (Cond.before (.selects RX11 yX11_fail yX11_fail) args s) = true := hE.w 1 (by decide +kernel) rfl
theorem wd_8 {s : State} (hE : EX s) {args : Array Value} : (Cond.before (.selects RX5 yX5_kind yX5_kind) args s) = true := hE.w 8 (by decide +kernel) rfl
theorem wd_22 {s : State} (hE : EX s) {args : Array Value} : (Cond.before (.selects RX3 yX3_slot yX3_slot) args s) = true := hE.w 22 (by decide +kernel) rfl
theorem wd_23 {s : State} (hE : EX s) {args : Array Value} : (Cond.before (.selects RX11 yX11_answer yX11_answer) args s) = true := hE.w 23 (by decide +kernel) rfl
theorem wd_24 {s : State} (hE : EX s) {args : Array Value} : (Cond.before (.selects RX6 yX6_join yX6_join) args s) = true := hE.w 24 (by decide +kernel) rfl
theorem wd_25 {s : State} (hE : EX s) {args : Array Value} : (Cond.before (.selects RX6 yX6_setLeast yX6_setLeast) args s) = true := hE.w 25 (by decide +kernel) rfl
theorem wd_29 {s : State} (hE : EX s) {args : Array Value} : (Cond.before (.selects RX11 yX11_readTwo yX11_readTwo) args s) = true := hE.w 29 (by decide +kernel) rfl
theorem wd_30 {s : State} (hE : EX s) {args : Array Value} : (Cond.before (.selects RX11 yX11_cannotGrowFromLoop yX11_cannotGrowFromLoop) args s) = true := hE.w 30 (by decide +kernel) rfl
theorem wd_31 {s : State} (hE : EX s) {args : Array Value} : (Cond.before (.selects RX11 yX11_readLoop yX11_readLoop) args s) = true := hE.w 31 (by decide +kernel) rfl
theorem wd_38 {s : State} (hE : EX s) {args : Array Value} : (Cond.before (.selects RX11 yX11_readCore yX11_readCore) args s) = true := hE.w 38 (by decide +kernel) rfl
theorem wd_39 {s : State} (hE : EX s) {args : Array Value} : (Cond.before (.selects RX11 yX11_readTwoLoops yX11_readTwoLoops) args s) = true := hE.w 39 (by decide +kernel) rfl
theorem wd_48 {s : State} (hE : EX s) {args : Array Value} : (Cond.before (.selects RX11 yX11_readWay yX11_readWay) args s) = true := hE.w 48 (by decide +kernel) rfl
theorem wd_53 {s : State} (hE : EX s) {args : Array Value} : (Cond.before (.selects RX12 yX12_four yX12_four) args s) = true := hE.w 53 (by decide +kernel) rfl
theorem wd_54 {s : State} (hE : EX s) {args : Array Value} : (Cond.before (.selects RX12 yX12_refuse yX12_refuse) args s) = true := hE.w 54 (by decide +kernel) rfl
theorem wd_55 {s : State} (hE : EX s) {args : Array Value} : (Cond.before (.selects RX12 yX12_copies yX12_copies) args s) = true := hE.w 55 (by decide +kernel) rfl
theorem wd_56 {s : State} (hE : EX s) {args : Array Value} : (Cond.before (.selects RX12 yX12_ahead yX12_ahead) args s) = true := hE.w 56 (by decide +kernel) rfl
theorem wd_57 {s : State} (hE : EX s) {args : Array Value} : (Cond.before (.selects RX12 yX12_byteAt yX12_byteAt) args s) = true := hE.w 57 (by decide +kernel) rfl
theorem wd_61 {s : State} (hE : EX s) {args : Array Value} : (Cond.before (.selects RX12 yX12_of yX12_of) args s) = true := hE.w 61 (by decide +kernel) rfl
theorem wd_67 {s : State} (hE : EX s) {args : Array Value} : (Cond.before (.selects RX12 yX12_isVertex yX12_isVertex) args s) = true := hE.w 67 (by decide +kernel) rfl
theorem wd_73 {s : State} (hE : EX s) {args : Array Value} : (Cond.before (.selects RX12 yX12_isEdge yX12_isEdge) args s) = true := hE.w 73 (by decide +kernel) rfl
theorem wd_79 {s : State} (hE : EX s) {args : Array Value} : (Cond.before (.selects RX12 yX12_acted yX12_acted) args s) = true := hE.w 79 (by decide +kernel) rfl
theorem wd_80 {s : State} (hE : EX s) {args : Array Value} : (Cond.before (.selects RX12 yX12_gives yX12_gives) args s) = true := hE.w 80 (by decide +kernel) rfl
theorem wd_81 {s : State} (hE : EX s) {args : Array Value} : (Cond.before (.selects RX12 yX12_parts yX12_parts) args s) = true := hE.w 81 (by decide +kernel) rfl
theorem wd_83 {s : State} (hE : EX s) {args : Array Value} : (Cond.before (.selects RX12 yX12_isWord yX12_isWord) args s) = true := hE.w 83 (by decide +kernel) rfl
theorem wd_95 {s : State} (hE : EX s) {args : Array Value} : (Cond.before (.selects RX12 yX12_wrongLoop yX12_wrongLoop) args s) = true := hE.w 95 (by decide +kernel) rfl
theorem wd_97 {s : State} (hE : EX s) {args : Array Value} : (Cond.before (.selects RX12 yX12_wrongLoops yX12_wrongLoops) args s) = true := hE.w 97 (by decide +kernel) rfl
theorem wd_104 {s : State} (hE : EX s) {args : Array Value} : (Cond.before (.selects RX12 yX12_wrongPair yX12_wrongPair) args s) = true := hE.w 104 (by decide +kernel) rfl
theorem wd_115 {s : State} (hE : EX s) {args : Array Value} : (Cond.before (.initialized RX11) args s) = true := hE.w 115 (by decide +kernel) rfl
theorem wd_116 {s : State} (hE : EX s) {args : Array Value} : (Cond.before (.initialized RX7) args s) = true := hE.w 116 (by decide +kernel) rfl
theorem wd_117 {s : State} (hE : EX s) {args : Array Value} : (Cond.before (.initialized RX3) args s) = true := hE.w 117 (by decide +kernel) rfl
theorem wd_118 {s : State} (hE : EX s) {args : Array Value} : (Cond.before (.initialized RX5) args s) = true := hE.w 118 (by decide +kernel) rfl
theorem wd_119 {s : State} (hE : EX s) {args : Array Value} : (Cond.before (.initialized RX9) args s) = true := hE.w 119 (by decide +kernel) rfl
theorem wd_120 {s : State} (hE : EX s) {args : Array Value} : (Cond.before (.initialized RX10) args s) = true := hE.w 120 (by decide +kernel) rfl
theorem wd_121 {s : State} (hE : EX s) {args : Array Value} : (Cond.before (.initialized RX8) args s) = true := hE.w 121 (by decide +kernel) rfl
theorem wd_122 {s : State} (hE : EX s) {args : Array Value} : (Cond.before (.initialized RX4) args s) = true := hE.w 122 (by decide +kernel) rfl
theorem wd_123 {s : State} (hE : EX s) {args : Array Value} : (Cond.before (.initialized RX0) args s) = true := hE.w 123 (by decide +kernel) rfl
theorem wd_124 {s : State} (hE : EX s) {args : Array Value} : (Cond.before (.initialized RX6) args s) = true := hE.w 124 (by decide +kernel) rfl
theorem wd_125 {s : State} (hE : EX s) {args : Array Value} : (Cond.before (.initialized RX1) args s) = true := hE.w 125 (by decide +kernel) rfl
theorem wd_126 {s : State} (hE : EX s) {args : Array Value} : (Cond.before (.initialized RX12) args s) = true := hE.w 126 (by decide +kernel) rfl
theorem wd_127 {s : State} (hE : EX s) {args : Array Value} : (Cond.before (.initialized RJ7) args s) = true := hE.w 127 (by decide +kernel) rfl
theorem wd_128 {s : State} (hE : EX s) {args : Array Value} : (Cond.before (.initialized "java/lang/Math") args s) = true := hE.w 128 (by decide +kernel) rfl
theorem wd_133 {s : State} (hE : EX s) {args : Array Value} : (Cond.before (.initialized "java/lang/System") args s) = true := hE.w 133 (by decide +kernel) rfl
theorem wd_135 {s : State} (hE : EX s) {args : Array Value} : (Cond.before (.classLink RL 7 RX11) args s) = true := hE.w 135 (by decide +kernel) rfl
theorem wd_136 {s : State} (hE : EX s) {args : Array Value} : (Cond.before (.instantiable RX11 19) args s) = true := hE.w 136 (by decide +kernel) rfl
theorem wd_137 {s : State} (hE : EX s) {args : Array Value} : (Cond.before (.methodLink RL 9 yX11_init) args s) = true := hE.w 137 (by decide +kernel) rfl
theorem wd_138 {s : State} (hE : EX s) {args : Array Value} : (Cond.before (.instanceMethod yX11_init) args s) = true := hE.w 138 (by decide +kernel) rfl
theorem wd_139 {s : State} (hE : EX s) {args : Array Value} : (Cond.before (.code yX11_init cX11_init 2 none) args s) = true := hE.w 139 (by decide +kernel) rfl
theorem wd_140 {s : State} (hE : EX s) {args : Array Value} : (Cond.before (.methodLink RX11 3 objectInit) args s) = true := hE.w 140 (by decide +kernel) rfl
theorem wd_141 {s : State} (hE : EX s) {args : Array Value} : (Cond.before (.instanceMethod objectInit) args s) = true := hE.w 141 (by decide +kernel) rfl
theorem wd_142 {s : State} (hE : EX s) {args : Array Value} : (Cond.before (.code objectInit ⟨#[0xb1]⟩ 1 none) args s) = true := hE.w 142 (by decide +kernel) rfl
theorem wd_143 {s : State} (hE : EX s) {args : Array Value} : (Cond.before (.classLink RX11 9 RX7) args s) = true := hE.w 143 (by decide +kernel) rfl
theorem wd_144 {s : State} (hE : EX s) {args : Array Value} : (Cond.before (.instantiable RX7 1) args s) = true := hE.w 144 (by decide +kernel) rfl
theorem wd_145 {s : State} (hE : EX s) : va_Nw (.methodLinkNest RX11 11 yX7_init RX11) s := hE.n 145 (by decide +kernel)
theorem wd_146 {s : State} (hE : EX s) {args : Array Value} : (Cond.before (.instanceMethod yX7_init) args s) = true := hE.w 146 (by decide +kernel) rfl
theorem wd_147 {s : State} (hE : EX s) {args : Array Value} : (Cond.before (.code yX7_init cX7_init 1 none) args s) = true := hE.w 147 (by decide +kernel) rfl
theorem wd_148 {s : State} (hE : EX s) {args : Array Value} : (Cond.before (.methodLink RX7 5 objectInit) args s) = true := hE.w 148 (by decide +kernel) rfl
theorem wd_149 {s : State} (hE : EX s) {args : Array Value} : (Cond.before (.fieldLink RX7 11 "GluedWords$Store" "cells" "[I") args s) = true := hE.w 149 (by decide +kernel) rfl
theorem wd_153 {s : State} (hE : EX s) {args : Array Value} : (Cond.before (.arrayClass .int) args s) = true := hE.w 153 (by decide +kernel) rfl
theorem wd_154 {s : State} (hE : EX s) {args : Array Value} : (Cond.before (.classLink RX11 16 RX3) args s) = true := hE.w 154 (by decide +kernel) rfl
theorem wd_155 {s : State} (hE : EX s) {args : Array Value} : (Cond.before (.instantiable RX3 3) args s) = true := hE.w 155 (by decide +kernel) rfl
theorem wd_156 {s : State} (hE : EX s) {args : Array Value} : (Cond.before (.methodLink RX11 18 yX3_init) args s) = true := hE.w 156 (by decide +kernel) rfl
theorem wd_157 {s : State} (hE : EX s) {args : Array Value} : (Cond.before (.instanceMethod yX3_init) args s) = true := hE.w 157 (by decide +kernel) rfl
theorem wd_158 {s : State} (hE : EX s) {args : Array Value} : (Cond.before (.code yX3_init cX3_init 2 none) args s) = true := hE.w 158 (by decide +kernel) rfl
theorem wd_159 {s : State} (hE : EX s) {args : Array Value} : (Cond.before (.methodLink RX3 3 objectInit) args s) = true := hE.w 159 (by decide +kernel) rfl
theorem wd_160 {s : State} (hE : EX s) {args : Array Value} : (Cond.before (.classLink RX3 9 RX7) args s) = true := hE.w 160 (by decide +kernel) rfl
theorem wd_162 {s : State} (hE : EX s) : va_Nw (.methodLinkNest RX3 24 yX7_init RX11) s := hE.n 162 (by decide +kernel)
theorem wd_163 {s : State} (hE : EX s) {args : Array Value} : (Cond.before (.fieldLink RX3 11 "GluedWords$History" "ring" "[LGluedWords$Store;") args s) = true := hE.w 163 (by decide +kernel) rfl
theorem wd_164 {s : State} (hE : EX s) {args : Array Value} : (Cond.before (.fieldLink RX3 17 "GluedWords$History" "first" "I") args s) = true := hE.w 164 (by decide +kernel) rfl
theorem wd_165 {s : State} (hE : EX s) {args : Array Value} : (Cond.before (.fieldLink RX3 21 "GluedWords$History" "count" "I") args s) = true := hE.w 165 (by decide +kernel) rfl
theorem wd_174 {s : State} (hE : EX s) {args : Array Value} : (Cond.before (.classLink RX11 45 RX5) args s) = true := hE.w 174 (by decide +kernel) rfl
theorem wd_175 {s : State} (hE : EX s) {args : Array Value} : (Cond.before (.instantiable RX5 10) args s) = true := hE.w 175 (by decide +kernel) rfl
theorem wd_176 {s : State} (hE : EX s) : va_Nw (.methodLinkNest RX11 47 yX5_init RX11) s := hE.n 176 (by decide +kernel)
theorem wd_177 {s : State} (hE : EX s) {args : Array Value} : (Cond.before (.instanceMethod yX5_init) args s) = true := hE.w 177 (by decide +kernel) rfl
theorem wd_178 {s : State} (hE : EX s) {args : Array Value} : (Cond.before (.code yX5_init cX5_init 1 none) args s) = true := hE.w 178 (by decide +kernel) rfl
theorem wd_179 {s : State} (hE : EX s) {args : Array Value} : (Cond.before (.methodLink RX5 3 objectInit) args s) = true := hE.w 179 (by decide +kernel) rfl
theorem wd_180 {s : State} (hE : EX s) {args : Array Value} : (Cond.before (.classLink RX5 9 RX9) args s) = true := hE.w 180 (by decide +kernel) rfl
theorem wd_181 {s : State} (hE : EX s) {args : Array Value} : (Cond.before (.instantiable RX9 6) args s) = true := hE.w 181 (by decide +kernel) rfl
theorem wd_182 {s : State} (hE : EX s) : va_Nw (.methodLinkNest RX5 11 yX9_init RX11) s := hE.n 182 (by decide +kernel)
theorem wd_183 {s : State} (hE : EX s) {args : Array Value} : (Cond.before (.instanceMethod yX9_init) args s) = true := hE.w 183 (by decide +kernel) rfl
theorem wd_184 {s : State} (hE : EX s) {args : Array Value} : (Cond.before (.code yX9_init cX9_init 1 none) args s) = true := hE.w 184 (by decide +kernel) rfl
theorem wd_185 {s : State} (hE : EX s) {args : Array Value} : (Cond.before (.methodLink RX9 3 objectInit) args s) = true := hE.w 185 (by decide +kernel) rfl
theorem wd_186 {s : State} (hE : EX s) {args : Array Value} : (Cond.before (.fieldLink RX9 9 "GluedWords$Tokens" "kinds" "[I") args s) = true := hE.w 186 (by decide +kernel) rfl
theorem wd_187 {s : State} (hE : EX s) {args : Array Value} : (Cond.before (.fieldLink RX9 15 "GluedWords$Tokens" "places" "[I") args s) = true := hE.w 187 (by decide +kernel) rfl
theorem wd_188 {s : State} (hE : EX s) {args : Array Value} : (Cond.before (.fieldLink RX9 18 "GluedWords$Tokens" "values" "[I") args s) = true := hE.w 188 (by decide +kernel) rfl
theorem wd_189 {s : State} (hE : EX s) {args : Array Value} : (Cond.before (.fieldLink RX9 21 "GluedWords$Tokens" "count" "I") args s) = true := hE.w 189 (by decide +kernel) rfl
theorem wd_190 {s : State} (hE : EX s) {args : Array Value} : (Cond.before (.fieldLink RX9 25 "GluedWords$Tokens" "text" "[B") args s) = true := hE.w 190 (by decide +kernel) rfl
theorem wd_191 {s : State} (hE : EX s) {args : Array Value} : (Cond.before (.fieldLink RX9 29 "GluedWords$Tokens" "size" "I") args s) = true := hE.w 191 (by decide +kernel) rfl
theorem wd_205 {s : State} (hE : EX s) {args : Array Value} : (Cond.before (.arrayClass .byte) args s) = true := hE.w 205 (by decide +kernel) rfl
theorem wd_206 {s : State} (hE : EX s) {args : Array Value} : (Cond.before (.classLink RX5 18 RX7) args s) = true := hE.w 206 (by decide +kernel) rfl
theorem wd_207 {s : State} (hE : EX s) : va_Nw (.methodLinkNest RX5 20 yX7_init RX11) s := hE.n 207 (by decide +kernel)
theorem wd_208 {s : State} (hE : EX s) {args : Array Value} : (Cond.before (.classLink RX5 25 RX10) args s) = true := hE.w 208 (by decide +kernel) rfl
theorem wd_209 {s : State} (hE : EX s) {args : Array Value} : (Cond.before (.instantiable RX10 4) args s) = true := hE.w 209 (by decide +kernel) rfl
theorem wd_210 {s : State} (hE : EX s) : va_Nw (.methodLinkNest RX5 27 yX10_init RX11) s := hE.n 210 (by decide +kernel)
theorem wd_211 {s : State} (hE : EX s) {args : Array Value} : (Cond.before (.instanceMethod yX10_init) args s) = true := hE.w 211 (by decide +kernel) rfl
theorem wd_212 {s : State} (hE : EX s) {args : Array Value} : (Cond.before (.code yX10_init cX10_init 1 none) args s) = true := hE.w 212 (by decide +kernel) rfl
theorem wd_213 {s : State} (hE : EX s) {args : Array Value} : (Cond.before (.methodLink RX10 3 objectInit) args s) = true := hE.w 213 (by decide +kernel) rfl
theorem wd_214 {s : State} (hE : EX s) {args : Array Value} : (Cond.before (.fieldLink RX10 9 "GluedWords$Walk" "numbers" "[I") args s) = true := hE.w 214 (by decide +kernel) rfl
theorem wd_215 {s : State} (hE : EX s) {args : Array Value} : (Cond.before (.fieldLink RX10 15 "GluedWords$Walk" "marches" "[I") args s) = true := hE.w 215 (by decide +kernel) rfl
theorem wd_216 {s : State} (hE : EX s) {args : Array Value} : (Cond.before (.fieldLink RX10 18 "GluedWords$Walk" "beginning" "I") args s) = true := hE.w 216 (by decide +kernel) rfl
theorem wd_217 {s : State} (hE : EX s) {args : Array Value} : (Cond.before (.fieldLink RX10 22 "GluedWords$Walk" "count" "I") args s) = true := hE.w 217 (by decide +kernel) rfl
theorem wd_227 {s : State} (hE : EX s) {args : Array Value} : (Cond.before (.fieldLink RX5 12 "GluedWords$Reader" "tokens" "LGluedWords$Tokens;") args s) = true := hE.w 227 (by decide +kernel) rfl
theorem wd_228 {s : State} (hE : EX s) {args : Array Value} : (Cond.before (.fieldLink RX5 21 "GluedWords$Reader" "draft" "LGluedWords$Store;") args s) = true := hE.w 228 (by decide +kernel) rfl
theorem wd_229 {s : State} (hE : EX s) {args : Array Value} : (Cond.before (.fieldLink RX5 28 "GluedWords$Reader" "walk" "LGluedWords$Walk;") args s) = true := hE.w 229 (by decide +kernel) rfl
theorem wd_230 {s : State} (hE : EX s) {args : Array Value} : (Cond.before (.fieldLink RX5 32 "GluedWords$Reader" "hasRead" "Z") args s) = true := hE.w 230 (by decide +kernel) rfl
theorem wd_231 {s : State} (hE : EX s) {args : Array Value} : (Cond.before (.fieldLink RX5 36 "GluedWords$Reader" "at" "I") args s) = true := hE.w 231 (by decide +kernel) rfl
theorem wd_232 {s : State} (hE : EX s) {args : Array Value} : (Cond.before (.fieldLink RX5 40 "GluedWords$Reader" "here" "I") args s) = true := hE.w 232 (by decide +kernel) rfl
theorem wd_233 {s : State} (hE : EX s) {args : Array Value} : (Cond.before (.fieldLink RX5 43 "GluedWords$Reader" "lines" "I") args s) = true := hE.w 233 (by decide +kernel) rfl
theorem wd_234 {s : State} (hE : EX s) {args : Array Value} : (Cond.before (.fieldLink RX5 46 "GluedWords$Reader" "faultKind" "I") args s) = true := hE.w 234 (by decide +kernel) rfl
theorem wd_235 {s : State} (hE : EX s) {args : Array Value} : (Cond.before (.fieldLink RX5 49 "GluedWords$Reader" "faultPlace" "I") args s) = true := hE.w 235 (by decide +kernel) rfl
theorem wd_236 {s : State} (hE : EX s) {args : Array Value} : (Cond.before (.fieldLink RX5 52 "GluedWords$Reader" "faultLine" "I") args s) = true := hE.w 236 (by decide +kernel) rfl
theorem wd_258 {s : State} (hE : EX s) {args : Array Value} : (Cond.before (.classLink RX11 52 RX8) args s) = true := hE.w 258 (by decide +kernel) rfl
theorem wd_259 {s : State} (hE : EX s) {args : Array Value} : (Cond.before (.instantiable RX8 2) args s) = true := hE.w 259 (by decide +kernel) rfl
theorem wd_260 {s : State} (hE : EX s) : va_Nw (.methodLinkNest RX11 54 yX8_init RX11) s := hE.n 260 (by decide +kernel)
theorem wd_261 {s : State} (hE : EX s) {args : Array Value} : (Cond.before (.instanceMethod yX8_init) args s) = true := hE.w 261 (by decide +kernel) rfl
theorem wd_262 {s : State} (hE : EX s) {args : Array Value} : (Cond.before (.code yX8_init cX8_init 1 none) args s) = true := hE.w 262 (by decide +kernel) rfl
theorem wd_263 {s : State} (hE : EX s) {args : Array Value} : (Cond.before (.methodLink RX8 3 objectInit) args s) = true := hE.w 263 (by decide +kernel) rfl
theorem wd_264 {s : State} (hE : EX s) {args : Array Value} : (Cond.before (.fieldLink RX8 9 "GluedWords$Teller" "bytes" "[B") args s) = true := hE.w 264 (by decide +kernel) rfl
theorem wd_265 {s : State} (hE : EX s) {args : Array Value} : (Cond.before (.fieldLink RX8 15 "GluedWords$Teller" "count" "I") args s) = true := hE.w 265 (by decide +kernel) rfl
theorem wd_271 {s : State} (hE : EX s) {args : Array Value} : (Cond.before (.classLink RX11 59 RX10) args s) = true := hE.w 271 (by decide +kernel) rfl
theorem wd_272 {s : State} (hE : EX s) : va_Nw (.methodLinkNest RX11 61 yX10_init RX11) s := hE.n 272 (by decide +kernel)
theorem wd_273 {s : State} (hE : EX s) {args : Array Value} : (Cond.before (.classLink RX11 78 RX4) args s) = true := hE.w 273 (by decide +kernel) rfl
theorem wd_274 {s : State} (hE : EX s) {args : Array Value} : (Cond.before (.instantiable RX4 8) args s) = true := hE.w 274 (by decide +kernel) rfl
theorem wd_275 {s : State} (hE : EX s) : va_Nw (.methodLinkNest RX11 80 yX4_init RX11) s := hE.n 275 (by decide +kernel)
theorem wd_276 {s : State} (hE : EX s) {args : Array Value} : (Cond.before (.instanceMethod yX4_init) args s) = true := hE.w 276 (by decide +kernel) rfl
theorem wd_277 {s : State} (hE : EX s) {args : Array Value} : (Cond.before (.code yX4_init cX4_init 1 none) args s) = true := hE.w 277 (by decide +kernel) rfl
theorem wd_278 {s : State} (hE : EX s) {args : Array Value} : (Cond.before (.methodLink RX4 3 objectInit) args s) = true := hE.w 278 (by decide +kernel) rfl
theorem wd_279 {s : State} (hE : EX s) {args : Array Value} : (Cond.before (.classLink RX4 9 RX10) args s) = true := hE.w 279 (by decide +kernel) rfl
theorem wd_280 {s : State} (hE : EX s) : va_Nw (.methodLinkNest RX4 11 yX10_init RX11) s := hE.n 280 (by decide +kernel)
theorem wd_281 {s : State} (hE : EX s) {args : Array Value} : (Cond.before (.classLink RX4 27 RX0) args s) = true := hE.w 281 (by decide +kernel) rfl
theorem wd_282 {s : State} (hE : EX s) {args : Array Value} : (Cond.before (.instantiable RX0 5) args s) = true := hE.w 282 (by decide +kernel) rfl
theorem wd_283 {s : State} (hE : EX s) : va_Nw (.methodLinkNest RX4 29 yX0_init RX11) s := hE.n 283 (by decide +kernel)
theorem wd_284 {s : State} (hE : EX s) {args : Array Value} : (Cond.before (.instanceMethod yX0_init) args s) = true := hE.w 284 (by decide +kernel) rfl
theorem wd_285 {s : State} (hE : EX s) {args : Array Value} : (Cond.before (.code yX0_init cX0_init 1 none) args s) = true := hE.w 285 (by decide +kernel) rfl
theorem wd_286 {s : State} (hE : EX s) {args : Array Value} : (Cond.before (.methodLink RX0 3 objectInit) args s) = true := hE.w 286 (by decide +kernel) rfl
theorem wd_287 {s : State} (hE : EX s) {args : Array Value} : (Cond.before (.classLink RX0 21 RX10) args s) = true := hE.w 287 (by decide +kernel) rfl
theorem wd_288 {s : State} (hE : EX s) : va_Nw (.methodLinkNest RX0 23 yX10_init RX11) s := hE.n 288 (by decide +kernel)
theorem wd_289 {s : State} (hE : EX s) {args : Array Value} : (Cond.before (.fieldLink RX0 9 "GluedWords$Carrier" "fromIndices" "[I") args s) = true := hE.w 289 (by decide +kernel) rfl
theorem wd_290 {s : State} (hE : EX s) {args : Array Value} : (Cond.before (.fieldLink RX0 15 "GluedWords$Carrier" "toIndices" "[I") args s) = true := hE.w 290 (by decide +kernel) rfl
theorem wd_291 {s : State} (hE : EX s) {args : Array Value} : (Cond.before (.fieldLink RX0 18 "GluedWords$Carrier" "orders" "[I") args s) = true := hE.w 291 (by decide +kernel) rfl
theorem wd_292 {s : State} (hE : EX s) {args : Array Value} : (Cond.before (.fieldLink RX0 24 "GluedWords$Carrier" "trial" "LGluedWords$Walk;") args s) = true := hE.w 292 (by decide +kernel) rfl
theorem wd_293 {s : State} (hE : EX s) {args : Array Value} : (Cond.before (.fieldLink RX0 28 "GluedWords$Carrier" "target" "LGluedWords$Walk;") args s) = true := hE.w 293 (by decide +kernel) rfl
theorem wd_305 {s : State} (hE : EX s) {args : Array Value} : (Cond.before (.fieldLink RX4 12 "GluedWords$Kinship" "first" "LGluedWords$Walk;") args s) = true := hE.w 305 (by decide +kernel) rfl
theorem wd_306 {s : State} (hE : EX s) {args : Array Value} : (Cond.before (.fieldLink RX4 18 "GluedWords$Kinship" "second" "LGluedWords$Walk;") args s) = true := hE.w 306 (by decide +kernel) rfl
theorem wd_307 {s : State} (hE : EX s) {args : Array Value} : (Cond.before (.fieldLink RX4 21 "GluedWords$Kinship" "begun" "LGluedWords$Walk;") args s) = true := hE.w 307 (by decide +kernel) rfl
theorem wd_308 {s : State} (hE : EX s) {args : Array Value} : (Cond.before (.fieldLink RX4 24 "GluedWords$Kinship" "spare" "LGluedWords$Walk;") args s) = true := hE.w 308 (by decide +kernel) rfl
theorem wd_309 {s : State} (hE : EX s) {args : Array Value} : (Cond.before (.fieldLink RX4 30 "GluedWords$Kinship" "carrier" "LGluedWords$Carrier;") args s) = true := hE.w 309 (by decide +kernel) rfl
theorem wd_310 {s : State} (hE : EX s) {args : Array Value} : (Cond.before (.fieldLink RX4 34 "GluedWords$Kinship" "far" "[I") args s) = true := hE.w 310 (by decide +kernel) rfl
theorem wd_311 {s : State} (hE : EX s) {args : Array Value} : (Cond.before (.fieldLink RX4 38 "GluedWords$Kinship" "behind" "I") args s) = true := hE.w 311 (by decide +kernel) rfl
theorem wd_312 {s : State} (hE : EX s) {args : Array Value} : (Cond.before (.fieldLink RX4 42 "GluedWords$Kinship" "taken" "I") args s) = true := hE.w 312 (by decide +kernel) rfl
theorem wd_330 {s : State} (hE : EX s) {args : Array Value} : (Cond.before (.classLink RX11 85 RX0) args s) = true := hE.w 330 (by decide +kernel) rfl
theorem wd_331 {s : State} (hE : EX s) : va_Nw (.methodLinkNest RX11 87 yX0_init RX11) s := hE.n 331 (by decide +kernel)
theorem wd_332 {s : State} (hE : EX s) {args : Array Value} : (Cond.before (.classLink RX11 92 RX6) args s) = true := hE.w 332 (by decide +kernel) rfl
theorem wd_333 {s : State} (hE : EX s) {args : Array Value} : (Cond.before (.instantiable RX6 3) args s) = true := hE.w 333 (by decide +kernel) rfl
theorem wd_334 {s : State} (hE : EX s) : va_Nw (.methodLinkNest RX11 94 yX6_init RX11) s := hE.n 334 (by decide +kernel)
theorem wd_335 {s : State} (hE : EX s) {args : Array Value} : (Cond.before (.instanceMethod yX6_init) args s) = true := hE.w 335 (by decide +kernel) rfl
theorem wd_336 {s : State} (hE : EX s) {args : Array Value} : (Cond.before (.code yX6_init cX6_init 1 none) args s) = true := hE.w 336 (by decide +kernel) rfl
theorem wd_337 {s : State} (hE : EX s) {args : Array Value} : (Cond.before (.methodLink RX6 3 objectInit) args s) = true := hE.w 337 (by decide +kernel) rfl
theorem wd_338 {s : State} (hE : EX s) {args : Array Value} : (Cond.before (.fieldLink RX6 9 "GluedWords$Shape" "leasts" "[I") args s) = true := hE.w 338 (by decide +kernel) rfl
theorem wd_339 {s : State} (hE : EX s) {args : Array Value} : (Cond.before (.fieldLink RX6 15 "GluedWords$Shape" "over" "J") args s) = true := hE.w 339 (by decide +kernel) rfl
theorem wd_340 {s : State} (hE : EX s) {args : Array Value} : (Cond.before (.fieldLink RX6 19 "GluedWords$Shape" "under" "J") args s) = true := hE.w 340 (by decide +kernel) rfl
theorem wd_348 {s : State} (hE : EX s) {args : Array Value} : (Cond.before (.classLink RX11 99 RX1) args s) = true := hE.w 348 (by decide +kernel) rfl
theorem wd_349 {s : State} (hE : EX s) {args : Array Value} : (Cond.before (.instantiable RX1 1) args s) = true := hE.w 349 (by decide +kernel) rfl
theorem wd_350 {s : State} (hE : EX s) : va_Nw (.methodLinkNest RX11 101 yX1_init RX11) s := hE.n 350 (by decide +kernel)
theorem wd_351 {s : State} (hE : EX s) {args : Array Value} : (Cond.before (.instanceMethod yX1_init) args s) = true := hE.w 351 (by decide +kernel) rfl
theorem wd_352 {s : State} (hE : EX s) {args : Array Value} : (Cond.before (.code yX1_init cX1_init 1 none) args s) = true := hE.w 352 (by decide +kernel) rfl
theorem wd_353 {s : State} (hE : EX s) {args : Array Value} : (Cond.before (.methodLink RX1 3 objectInit) args s) = true := hE.w 353 (by decide +kernel) rfl
theorem wd_354 {s : State} (hE : EX s) {args : Array Value} : (Cond.before (.fieldLink RX1 9 "GluedWords$Counts" "ways" "[J") args s) = true := hE.w 354 (by decide +kernel) rfl
theorem wd_358 {s : State} (hE : EX s) {args : Array Value} : (Cond.before (.arrayClass .long) args s) = true := hE.w 358 (by decide +kernel) rfl
theorem wd_359 {s : State} (hE : EX s) {args : Array Value} : (Cond.before (.fieldLink RX11 12 "GluedWords" "now" "LGluedWords$Store;") args s) = true := hE.w 359 (by decide +kernel) rfl
theorem wd_360 {s : State} (hE : EX s) {args : Array Value} : (Cond.before (.fieldLink RX11 19 "GluedWords" "history" "LGluedWords$History;") args s) = true := hE.w 360 (by decide +kernel) rfl
theorem wd_361 {s : State} (hE : EX s) {args : Array Value} : (Cond.before (.fieldLink RX11 23 "GluedWords" "markedStores" "[LGluedWords$Store;") args s) = true := hE.w 361 (by decide +kernel) rfl
theorem wd_362 {s : State} (hE : EX s) {args : Array Value} : (Cond.before (.fieldLink RX11 27 "GluedWords" "markedHistories" "[LGluedWords$History;") args s) = true := hE.w 362 (by decide +kernel) rfl
theorem wd_363 {s : State} (hE : EX s) {args : Array Value} : (Cond.before (.fieldLink RX11 31 "GluedWords" "markCount" "I") args s) = true := hE.w 363 (by decide +kernel) rfl
theorem wd_364 {s : State} (hE : EX s) {args : Array Value} : (Cond.before (.fieldLink RX11 35 "GluedWords" "latest" "I") args s) = true := hE.w 364 (by decide +kernel) rfl
theorem wd_365 {s : State} (hE : EX s) {args : Array Value} : (Cond.before (.fieldLink RX11 38 "GluedWords" "tape" "[B") args s) = true := hE.w 365 (by decide +kernel) rfl
theorem wd_366 {s : State} (hE : EX s) {args : Array Value} : (Cond.before (.fieldLink RX11 42 "GluedWords" "tapeSize" "I") args s) = true := hE.w 366 (by decide +kernel) rfl
theorem wd_367 {s : State} (hE : EX s) {args : Array Value} : (Cond.before (.fieldLink RX11 48 "GluedWords" "reader" "LGluedWords$Reader;") args s) = true := hE.w 367 (by decide +kernel) rfl
theorem wd_368 {s : State} (hE : EX s) {args : Array Value} : (Cond.before (.fieldLink RX11 55 "GluedWords" "teller" "LGluedWords$Teller;") args s) = true := hE.w 368 (by decide +kernel) rfl
theorem wd_369 {s : State} (hE : EX s) {args : Array Value} : (Cond.before (.fieldLink RX11 62 "GluedWords" "one" "LGluedWords$Walk;") args s) = true := hE.w 369 (by decide +kernel) rfl
theorem wd_370 {s : State} (hE : EX s) {args : Array Value} : (Cond.before (.fieldLink RX11 66 "GluedWords" "two" "LGluedWords$Walk;") args s) = true := hE.w 370 (by decide +kernel) rfl
theorem wd_371 {s : State} (hE : EX s) {args : Array Value} : (Cond.before (.fieldLink RX11 69 "GluedWords" "row" "LGluedWords$Walk;") args s) = true := hE.w 371 (by decide +kernel) rfl
theorem wd_372 {s : State} (hE : EX s) {args : Array Value} : (Cond.before (.fieldLink RX11 72 "GluedWords" "otherRow" "LGluedWords$Walk;") args s) = true := hE.w 372 (by decide +kernel) rfl
theorem wd_373 {s : State} (hE : EX s) {args : Array Value} : (Cond.before (.fieldLink RX11 75 "GluedWords" "spare" "LGluedWords$Walk;") args s) = true := hE.w 373 (by decide +kernel) rfl
theorem wd_374 {s : State} (hE : EX s) {args : Array Value} : (Cond.before (.fieldLink RX11 81 "GluedWords" "kinship" "LGluedWords$Kinship;") args s) = true := hE.w 374 (by decide +kernel) rfl
theorem wd_375 {s : State} (hE : EX s) {args : Array Value} : (Cond.before (.fieldLink RX11 88 "GluedWords" "carrier" "LGluedWords$Carrier;") args s) = true := hE.w 375 (by decide +kernel) rfl
theorem wd_376 {s : State} (hE : EX s) {args : Array Value} : (Cond.before (.fieldLink RX11 95 "GluedWords" "shape" "LGluedWords$Shape;") args s) = true := hE.w 376 (by decide +kernel) rfl
theorem wd_377 {s : State} (hE : EX s) {args : Array Value} : (Cond.before (.fieldLink RX11 102 "GluedWords" "counts" "LGluedWords$Counts;") args s) = true := hE.w 377 (by decide +kernel) rfl
theorem wd_417 {s : State} (hE : EX s) {args : Array Value} : (Cond.before (.methodLink RL 13 yX11_status) args s) = true := hE.w 417 (by decide +kernel) rfl
theorem wd_418 {s : State} (hE : EX s) {args : Array Value} : (Cond.before (.instanceMethod yX11_status) args s) = true := hE.w 418 (by decide +kernel) rfl
theorem wd_419 {s : State} (hE : EX s) {args : Array Value} : (Cond.before (.selects RX11 yX11_status yX11_status) args s) = true := hE.w 419 (by decide +kernel) rfl
theorem wd_420 {s : State} (hE : EX s) {args : Array Value} : (Cond.before (.code yX11_status cX11_status 1 (some .int)) args s) = true := hE.w 420 (by decide +kernel) rfl
theorem wd_421 {s : State} (hE : EX s) {args : Array Value} : (Cond.before (.methodLink RL 18 yX11_feed) args s) = true := hE.w 421 (by decide +kernel) rfl
theorem wd_422 {s : State} (hE : EX s) {args : Array Value} : (Cond.before (.instanceMethod yX11_feed) args s) = true := hE.w 422 (by decide +kernel) rfl
theorem wd_423 {s : State} (hE : EX s) {args : Array Value} : (Cond.before (.selects RX11 yX11_feed yX11_feed) args s) = true := hE.w 423 (by decide +kernel) rfl
theorem wd_424 {s : State} (hE : EX s) {args : Array Value} : (Cond.before (.code yX11_feed cX11_feed 6 (some .int)) args s) = true := hE.w 424 (by decide +kernel) rfl
theorem wd_425 {s : State} (hE : EX s) {args : Array Value} : (Cond.before (.methodLink RX11 106 yX11_feedFour) args s) = true := hE.w 425 (by decide +kernel) rfl
theorem wd_427 {s : State} (hE : EX s) {args : Array Value} : (Cond.before (.instanceMethod yX11_feedFour) args s) = true := hE.w 427 (by decide +kernel) rfl
theorem wd_428 {s : State} (hE : EX s) {args : Array Value} : (Cond.before (.code yX11_feedFour cX11_feedFour 3 none) args s) = true := hE.w 428 (by decide +kernel) rfl
theorem wd_429 {s : State} (hE : EX s) {args : Array Value} : (Cond.before (.methodLink RL 23 yX11_load) args s) = true := hE.w 429 (by decide +kernel) rfl
theorem wd_430 {s : State} (hE : EX s) {args : Array Value} : (Cond.before (.instanceMethod yX11_load) args s) = true := hE.w 430 (by decide +kernel) rfl
theorem wd_431 {s : State} (hE : EX s) {args : Array Value} : (Cond.before (.selects RX11 yX11_load yX11_load) args s) = true := hE.w 431 (by decide +kernel) rfl
theorem wd_432 {s : State} (hE : EX s) {args : Array Value} : (Cond.before (.code yX11_load cX11_load 2 (some .int)) args s) = true := hE.w 432 (by decide +kernel) rfl
theorem wd_433 {s : State} (hE : EX s) {args : Array Value} : (Cond.before (.methodLink RX11 110 yX11_fail) args s) = true := hE.w 433 (by decide +kernel) rfl
theorem wd_435 {s : State} (hE : EX s) {args : Array Value} : (Cond.before (.instanceMethod yX11_fail) args s) = true := hE.w 435 (by decide +kernel) rfl
theorem wd_436 {s : State} (hE : EX s) {args : Array Value} : (Cond.before (.code yX11_fail cX11_fail 2 (some .int)) args s) = true := hE.w 436 (by decide +kernel) rfl
theorem wd_437 {s : State} (hE : EX s) {args : Array Value} : (Cond.before (.methodLink RX11 114 yX5_read) args s) = true := hE.w 437 (by decide +kernel) rfl
theorem wd_438 {s : State} (hE : EX s) {args : Array Value} : (Cond.before (.instanceMethod yX5_read) args s) = true := hE.w 438 (by decide +kernel) rfl
theorem wd_439 {s : State} (hE : EX s) {args : Array Value} : (Cond.before (.selects RX5 yX5_read yX5_read) args s) = true := hE.w 439 (by decide +kernel) rfl
theorem wd_440 {s : State} (hE : EX s) {args : Array Value} : (Cond.before (.code yX5_read cX5_read 4 (some .boolean)) args s) = true := hE.w 440 (by decide +kernel) rfl
theorem wd_441 {s : State} (hE : EX s) {args : Array Value} : (Cond.before (.methodLink RX5 55 yX7_clear) args s) = true := hE.w 441 (by decide +kernel) rfl
theorem wd_442 {s : State} (hE : EX s) {args : Array Value} : (Cond.before (.instanceMethod yX7_clear) args s) = true := hE.w 442 (by decide +kernel) rfl
theorem wd_443 {s : State} (hE : EX s) {args : Array Value} : (Cond.before (.selects RX7 yX7_clear yX7_clear) args s) = true := hE.w 443 (by decide +kernel) rfl
theorem wd_444 {s : State} (hE : EX s) {args : Array Value} : (Cond.before (.code yX7_clear cX7_clear 1 none) args s) = true := hE.w 444 (by decide +kernel) rfl
theorem wd_445 {s : State} (hE : EX s) {args : Array Value} : (Cond.before (.methodLink RX7 15 yJ7_fill_53178) args s) = true := hE.w 445 (by decide +kernel) rfl
theorem wd_446 {s : State} (hE : EX s) {args : Array Value} : (Cond.before (.static yJ7_fill_53178) args s) = true := hE.w 446 (by decide +kernel) rfl
theorem wd_447 {s : State} (hE : EX s) {args : Array Value} : (Cond.before (.code yJ7_fill_53178 cJ7_fill_53178 4 none) args s) = true := hE.w 447 (by decide +kernel) rfl
theorem wd_448 {s : State} (hE : EX s) {args : Array Value} : (Cond.before (.methodLink RX5 58 yX9_cut) args s) = true := hE.w 448 (by decide +kernel) rfl
theorem wd_449 {s : State} (hE : EX s) {args : Array Value} : (Cond.before (.instanceMethod yX9_cut) args s) = true := hE.w 449 (by decide +kernel) rfl
theorem wd_450 {s : State} (hE : EX s) {args : Array Value} : (Cond.before (.selects RX9 yX9_cut yX9_cut) args s) = true := hE.w 450 (by decide +kernel) rfl
theorem wd_451 {s : State} (hE : EX s) {args : Array Value} : (Cond.before (.code yX9_cut cX9_cut 6 none) args s) = true := hE.w 451 (by decide +kernel) rfl
theorem wd_452 {s : State} (hE : EX s) {args : Array Value} : (Cond.before (.methodLink RX9 32 Lib.Math.min.name) args s) = true := hE.w 452 (by decide +kernel) rfl
theorem wd_453 {s : State} (hE : EX s) {args : Array Value} : (Cond.before (.static Lib.Math.min.name) args s) = true := hE.w 453 (by decide +kernel) rfl
theorem wd_454 {s : State} (hE : EX s) {args : Array Value} : (Cond.before (.code Lib.Math.min.name Lib.Math.min.code 2 (some .int)) args s) = true := hE.w 454 (by decide +kernel) rfl
theorem wd_542 {s : State} (hE : EX s) {args : Array Value} : (Cond.before (.methodLink RX5 62 yX5_kind) args s) = true := hE.w 542 (by decide +kernel) rfl
theorem wd_544 {s : State} (hE : EX s) {args : Array Value} : (Cond.before (.instanceMethod yX5_kind) args s) = true := hE.w 544 (by decide +kernel) rfl
theorem wd_545 {s : State} (hE : EX s) {args : Array Value} : (Cond.before (.code yX5_kind cX5_kind 1 (some .int)) args s) = true := hE.w 545 (by decide +kernel) rfl
theorem wd_546 {s : State} (hE : EX s) {args : Array Value} : (Cond.before (.methodLink RX5 75 yX9_kindAt) args s) = true := hE.w 546 (by decide +kernel) rfl
theorem wd_547 {s : State} (hE : EX s) {args : Array Value} : (Cond.before (.instanceMethod yX9_kindAt) args s) = true := hE.w 547 (by decide +kernel) rfl
theorem wd_548 {s : State} (hE : EX s) {args : Array Value} : (Cond.before (.selects RX9 yX9_kindAt yX9_kindAt) args s) = true := hE.w 548 (by decide +kernel) rfl
theorem wd_549 {s : State} (hE : EX s) {args : Array Value} : (Cond.before (.code yX9_kindAt cX9_kindAt 2 (some .int)) args s) = true := hE.w 549 (by decide +kernel) rfl
theorem wd_555 {s : State} (hE : EX s) {args : Array Value} : (Cond.before (.instanceMethod yX7_vertices) args s) = true := hE.w 555 (by decide +kernel) rfl
theorem wd_556 {s : State} (hE : EX s) {args : Array Value} : (Cond.before (.selects RX7 yX7_vertices yX7_vertices) args s) = true := hE.w 556 (by decide +kernel) rfl
theorem wd_557 {s : State} (hE : EX s) {args : Array Value} : (Cond.before (.code yX7_vertices cX7_vertices 1 (some .int)) args s) = true := hE.w 557 (by decide +kernel) rfl
theorem wd_596 {s : State} (hE : EX s) {args : Array Value} : (Cond.before (.instanceMethod yX7_edges) args s) = true := hE.w 596 (by decide +kernel) rfl
theorem wd_597 {s : State} (hE : EX s) {args : Array Value} : (Cond.before (.selects RX7 yX7_edges yX7_edges) args s) = true := hE.w 597 (by decide +kernel) rfl
theorem wd_598 {s : State} (hE : EX s) {args : Array Value} : (Cond.before (.code yX7_edges cX7_edges 1 (some .int)) args s) = true := hE.w 598 (by decide +kernel) rfl
theorem wd_604 {s : State} (hE : EX s) {args : Array Value} : (Cond.before (.instanceMethod yX7_hasVertex) args s) = true := hE.w 604 (by decide +kernel) rfl
theorem wd_605 {s : State} (hE : EX s) {args : Array Value} : (Cond.before (.selects RX7 yX7_hasVertex yX7_hasVertex) args s) = true := hE.w 605 (by decide +kernel) rfl
theorem wd_606 {s : State} (hE : EX s) {args : Array Value} : (Cond.before (.code yX7_hasVertex cX7_hasVertex 2 (some .boolean)) args s) = true := hE.w 606 (by decide +kernel) rfl
theorem wd_616 {s : State} (hE : EX s) {args : Array Value} : (Cond.before (.static yX11_rest) args s) = true := hE.w 616 (by decide +kernel) rfl
theorem wd_617 {s : State} (hE : EX s) {args : Array Value} : (Cond.before (.code yX11_rest cX11_rest 3 (some .int)) args s) = true := hE.w 617 (by decide +kernel) rfl
theorem wd_671 {s : State} (hE : EX s) {args : Array Value} : (Cond.before (.instanceMethod yX7_hasEdge) args s) = true := hE.w 671 (by decide +kernel) rfl
theorem wd_672 {s : State} (hE : EX s) {args : Array Value} : (Cond.before (.selects RX7 yX7_hasEdge yX7_hasEdge) args s) = true := hE.w 672 (by decide +kernel) rfl
theorem wd_673 {s : State} (hE : EX s) {args : Array Value} : (Cond.before (.code yX7_hasEdge cX7_hasEdge 2 (some .boolean)) args s) = true := hE.w 673 (by decide +kernel) rfl
theorem wd_698 {s : State} (hE : EX s) {args : Array Value} : (Cond.before (.instanceMethod yX7_words) args s) = true := hE.w 698 (by decide +kernel) rfl
theorem wd_699 {s : State} (hE : EX s) {args : Array Value} : (Cond.before (.selects RX7 yX7_words yX7_words) args s) = true := hE.w 699 (by decide +kernel) rfl
theorem wd_700 {s : State} (hE : EX s) {args : Array Value} : (Cond.before (.code yX7_words cX7_words 1 (some .int)) args s) = true := hE.w 700 (by decide +kernel) rfl
theorem wd_705 {s : State} (hE : EX s) {args : Array Value} : (Cond.before (.methodLink RX7 93 yX7_hasWord) args s) = true := hE.w 705 (by decide +kernel) rfl
theorem wd_706 {s : State} (hE : EX s) {args : Array Value} : (Cond.before (.instanceMethod yX7_hasWord) args s) = true := hE.w 706 (by decide +kernel) rfl
theorem wd_707 {s : State} (hE : EX s) {args : Array Value} : (Cond.before (.selects RX7 yX7_hasWord yX7_hasWord) args s) = true := hE.w 707 (by decide +kernel) rfl
theorem wd_708 {s : State} (hE : EX s) {args : Array Value} : (Cond.before (.code yX7_hasWord cX7_hasWord 2 (some .boolean)) args s) = true := hE.w 708 (by decide +kernel) rfl
theorem wd_722 {s : State} (hE : EX s) {args : Array Value} : (Cond.before (.methodLink RX11 118 yX3_push) args s) = true := hE.w 722 (by decide +kernel) rfl
theorem wd_723 {s : State} (hE : EX s) {args : Array Value} : (Cond.before (.instanceMethod yX3_push) args s) = true := hE.w 723 (by decide +kernel) rfl
theorem wd_724 {s : State} (hE : EX s) {args : Array Value} : (Cond.before (.selects RX3 yX3_push yX3_push) args s) = true := hE.w 724 (by decide +kernel) rfl
theorem wd_725 {s : State} (hE : EX s) {args : Array Value} : (Cond.before (.code yX3_push cX3_push 3 none) args s) = true := hE.w 725 (by decide +kernel) rfl
theorem wd_726 {s : State} (hE : EX s) : va_Nw (.methodLinkNest RX3 25 yX11_rest RX11) s := hE.n 726 (by decide +kernel)
theorem wd_727 {s : State} (hE : EX s) {args : Array Value} : (Cond.before (.methodLink RX3 29 yX3_slot) args s) = true := hE.w 727 (by decide +kernel) rfl
theorem wd_729 {s : State} (hE : EX s) {args : Array Value} : (Cond.before (.instanceMethod yX3_slot) args s) = true := hE.w 729 (by decide +kernel) rfl
theorem wd_730 {s : State} (hE : EX s) {args : Array Value} : (Cond.before (.code yX3_slot cX3_slot 3 (some (.object "GluedWords$Store"))) args s) = true := hE.w 730 (by decide +kernel) rfl
theorem wd_731 {s : State} (hE : EX s) {args : Array Value} : (Cond.before (.methodLink RX3 33 yX7_copyFrom) args s) = true := hE.w 731 (by decide +kernel) rfl
theorem wd_732 {s : State} (hE : EX s) {args : Array Value} : (Cond.before (.instanceMethod yX7_copyFrom) args s) = true := hE.w 732 (by decide +kernel) rfl
theorem wd_733 {s : State} (hE : EX s) {args : Array Value} : (Cond.before (.selects RX7 yX7_copyFrom yX7_copyFrom) args s) = true := hE.w 733 (by decide +kernel) rfl
theorem wd_734 {s : State} (hE : EX s) {args : Array Value} : (Cond.before (.code yX7_copyFrom cX7_copyFrom 2 none) args s) = true := hE.w 734 (by decide +kernel) rfl
theorem wd_735 {s : State} (hE : EX s) {args : Array Value} : (Cond.before (.methodLink RX7 21 Lib.Math.min.name) args s) = true := hE.w 735 (by decide +kernel) rfl
theorem wd_736 {s : State} (hE : EX s) {args : Array Value} : (Cond.before (.methodLink RX7 27 arraycopyName) args s) = true := hE.w 736 (by decide +kernel) rfl
theorem wd_737 {s : State} (hE : EX s) {args : Array Value} : (Cond.before (.static arraycopyName) args s) = true := hE.w 737 (by decide +kernel) rfl
theorem wd_738 {s : State} (hE : EX s) {args : Array Value} : (Cond.before (.native arraycopyName) args s) = true := hE.w 738 (by decide +kernel) rfl
theorem wd_739 {s : State} (hE : EX s) {args : Array Value} : (Cond.before (.methodLink RX11 122 yX5_result) args s) = true := hE.w 739 (by decide +kernel) rfl
theorem wd_740 {s : State} (hE : EX s) {args : Array Value} : (Cond.before (.instanceMethod yX5_result) args s) = true := hE.w 740 (by decide +kernel) rfl
theorem wd_741 {s : State} (hE : EX s) {args : Array Value} : (Cond.before (.selects RX5 yX5_result yX5_result) args s) = true := hE.w 741 (by decide +kernel) rfl
theorem wd_742 {s : State} (hE : EX s) {args : Array Value} : (Cond.before (.code yX5_result cX5_result 1 (some (.object "GluedWords$Store"))) args s) = true := hE.w 742 (by decide +kernel) rfl
theorem wd_743 {s : State} (hE : EX s) {args : Array Value} : (Cond.before (.methodLink RX11 126 yX7_copyFrom) args s) = true := hE.w 743 (by decide +kernel) rfl
theorem wd_744 {s : State} (hE : EX s) {args : Array Value} : (Cond.before (.methodLink RX11 129 yX7_words) args s) = true := hE.w 744 (by decide +kernel) rfl
theorem wd_745 {s : State} (hE : EX s) {args : Array Value} : (Cond.before (.methodLink RX11 133 yX11_answer) args s) = true := hE.w 745 (by decide +kernel) rfl
theorem wd_747 {s : State} (hE : EX s) {args : Array Value} : (Cond.before (.instanceMethod yX11_answer) args s) = true := hE.w 747 (by decide +kernel) rfl
theorem wd_748 {s : State} (hE : EX s) {args : Array Value} : (Cond.before (.code yX11_answer cX11_answer 2 (some .int)) args s) = true := hE.w 748 (by decide +kernel) rfl
theorem wd_749 {s : State} (hE : EX s) {args : Array Value} : (Cond.before (.methodLink RL 28 yX11_fault) args s) = true := hE.w 749 (by decide +kernel) rfl
theorem wd_750 {s : State} (hE : EX s) {args : Array Value} : (Cond.before (.instanceMethod yX11_fault) args s) = true := hE.w 750 (by decide +kernel) rfl
theorem wd_751 {s : State} (hE : EX s) {args : Array Value} : (Cond.before (.selects RX11 yX11_fault yX11_fault) args s) = true := hE.w 751 (by decide +kernel) rfl
theorem wd_752 {s : State} (hE : EX s) {args : Array Value} : (Cond.before (.code yX11_fault cX11_fault 2 (some .int)) args s) = true := hE.w 752 (by decide +kernel) rfl
theorem wd_753 {s : State} (hE : EX s) {args : Array Value} : (Cond.before (.methodLink RX11 136 yX5_tellFault) args s) = true := hE.w 753 (by decide +kernel) rfl
theorem wd_754 {s : State} (hE : EX s) {args : Array Value} : (Cond.before (.instanceMethod yX5_tellFault) args s) = true := hE.w 754 (by decide +kernel) rfl
theorem wd_755 {s : State} (hE : EX s) {args : Array Value} : (Cond.before (.selects RX5 yX5_tellFault yX5_tellFault) args s) = true := hE.w 755 (by decide +kernel) rfl
theorem wd_756 {s : State} (hE : EX s) {args : Array Value} : (Cond.before (.code yX5_tellFault cX5_tellFault 2 (some .int)) args s) = true := hE.w 756 (by decide +kernel) rfl
theorem wd_757 {s : State} (hE : EX s) {args : Array Value} : (Cond.before (.methodLink RL 32 yX11_many) args s) = true := hE.w 757 (by decide +kernel) rfl
theorem wd_758 {s : State} (hE : EX s) {args : Array Value} : (Cond.before (.instanceMethod yX11_many) args s) = true := hE.w 758 (by decide +kernel) rfl
theorem wd_759 {s : State} (hE : EX s) {args : Array Value} : (Cond.before (.selects RX11 yX11_many yX11_many) args s) = true := hE.w 759 (by decide +kernel) rfl
theorem wd_760 {s : State} (hE : EX s) {args : Array Value} : (Cond.before (.code yX11_many cX11_many 2 (some .int)) args s) = true := hE.w 760 (by decide +kernel) rfl
theorem wd_761 {s : State} (hE : EX s) {args : Array Value} : (Cond.before (.methodLink RX11 139 yX7_vertices) args s) = true := hE.w 761 (by decide +kernel) rfl
theorem wd_762 {s : State} (hE : EX s) {args : Array Value} : (Cond.before (.methodLink RX11 142 yX7_edges) args s) = true := hE.w 762 (by decide +kernel) rfl
theorem wd_763 {s : State} (hE : EX s) {args : Array Value} : (Cond.before (.methodLink RX11 145 yX3_size) args s) = true := hE.w 763 (by decide +kernel) rfl
theorem wd_764 {s : State} (hE : EX s) {args : Array Value} : (Cond.before (.instanceMethod yX3_size) args s) = true := hE.w 764 (by decide +kernel) rfl
theorem wd_765 {s : State} (hE : EX s) {args : Array Value} : (Cond.before (.selects RX3 yX3_size yX3_size) args s) = true := hE.w 765 (by decide +kernel) rfl
theorem wd_766 {s : State} (hE : EX s) {args : Array Value} : (Cond.before (.code yX3_size cX3_size 1 (some .int)) args s) = true := hE.w 766 (by decide +kernel) rfl
theorem wd_767 {s : State} (hE : EX s) {args : Array Value} : (Cond.before (.methodLink RX11 148 yX6_parts) args s) = true := hE.w 767 (by decide +kernel) rfl
theorem wd_768 {s : State} (hE : EX s) {args : Array Value} : (Cond.before (.instanceMethod yX6_parts) args s) = true := hE.w 768 (by decide +kernel) rfl
theorem wd_769 {s : State} (hE : EX s) {args : Array Value} : (Cond.before (.selects RX6 yX6_parts yX6_parts) args s) = true := hE.w 769 (by decide +kernel) rfl
theorem wd_770 {s : State} (hE : EX s) {args : Array Value} : (Cond.before (.code yX6_parts cX6_parts 4 (some .int)) args s) = true := hE.w 770 (by decide +kernel) rfl
theorem wd_771 {s : State} (hE : EX s) {args : Array Value} : (Cond.before (.methodLink RX6 51 yX6_join) args s) = true := hE.w 771 (by decide +kernel) rfl
theorem wd_773 {s : State} (hE : EX s) {args : Array Value} : (Cond.before (.instanceMethod yX6_join) args s) = true := hE.w 773 (by decide +kernel) rfl
theorem wd_774 {s : State} (hE : EX s) {args : Array Value} : (Cond.before (.code yX6_join cX6_join 5 none) args s) = true := hE.w 774 (by decide +kernel) rfl
theorem wd_775 {s : State} (hE : EX s) {args : Array Value} : (Cond.before (.methodLink RX6 22 yX6_setLeast) args s) = true := hE.w 775 (by decide +kernel) rfl
theorem wd_777 {s : State} (hE : EX s) {args : Array Value} : (Cond.before (.instanceMethod yX6_setLeast) args s) = true := hE.w 777 (by decide +kernel) rfl
theorem wd_778 {s : State} (hE : EX s) {args : Array Value} : (Cond.before (.code yX6_setLeast cX6_setLeast 3 none) args s) = true := hE.w 778 (by decide +kernel) rfl
theorem wd_779 {s : State} (hE : EX s) {args : Array Value} : (Cond.before (.methodLink RX6 26 yX7_vertices) args s) = true := hE.w 779 (by decide +kernel) rfl
theorem wd_792 {s : State} (hE : EX s) {args : Array Value} : (Cond.before (.methodLink RL 36 yX11_order) args s) = true := hE.w 792 (by decide +kernel) rfl
theorem wd_793 {s : State} (hE : EX s) {args : Array Value} : (Cond.before (.instanceMethod yX11_order) args s) = true := hE.w 793 (by decide +kernel) rfl
theorem wd_794 {s : State} (hE : EX s) {args : Array Value} : (Cond.before (.selects RX11 yX11_order yX11_order) args s) = true := hE.w 794 (by decide +kernel) rfl
theorem wd_795 {s : State} (hE : EX s) {args : Array Value} : (Cond.before (.code yX11_order cX11_order 2 (some .int)) args s) = true := hE.w 795 (by decide +kernel) rfl
theorem wd_796 {s : State} (hE : EX s) {args : Array Value} : (Cond.before (.methodLink RX11 152 yX7_hasVertex) args s) = true := hE.w 796 (by decide +kernel) rfl
theorem wd_798 {s : State} (hE : EX s) {args : Array Value} : (Cond.before (.methodLink RL 40 yX11_edge) args s) = true := hE.w 798 (by decide +kernel) rfl
theorem wd_799 {s : State} (hE : EX s) {args : Array Value} : (Cond.before (.instanceMethod yX11_edge) args s) = true := hE.w 799 (by decide +kernel) rfl
theorem wd_800 {s : State} (hE : EX s) {args : Array Value} : (Cond.before (.selects RX11 yX11_edge yX11_edge) args s) = true := hE.w 800 (by decide +kernel) rfl
theorem wd_801 {s : State} (hE : EX s) {args : Array Value} : (Cond.before (.code yX11_edge cX11_edge 3 (some .int)) args s) = true := hE.w 801 (by decide +kernel) rfl
theorem wd_802 {s : State} (hE : EX s) {args : Array Value} : (Cond.before (.methodLink RX11 159 yX7_hasEdge) args s) = true := hE.w 802 (by decide +kernel) rfl
theorem wd_810 {s : State} (hE : EX s) {args : Array Value} : (Cond.before (.methodLink RL 45 yX11_word) args s) = true := hE.w 810 (by decide +kernel) rfl
theorem wd_811 {s : State} (hE : EX s) {args : Array Value} : (Cond.before (.instanceMethod yX11_word) args s) = true := hE.w 811 (by decide +kernel) rfl
theorem wd_812 {s : State} (hE : EX s) {args : Array Value} : (Cond.before (.selects RX11 yX11_word yX11_word) args s) = true := hE.w 812 (by decide +kernel) rfl
theorem wd_813 {s : State} (hE : EX s) {args : Array Value} : (Cond.before (.code yX11_word cX11_word 4 (some .int)) args s) = true := hE.w 813 (by decide +kernel) rfl
theorem wd_814 {s : State} (hE : EX s) {args : Array Value} : (Cond.before (.methodLink RX11 169 yX7_readWord) args s) = true := hE.w 814 (by decide +kernel) rfl
theorem wd_815 {s : State} (hE : EX s) {args : Array Value} : (Cond.before (.instanceMethod yX7_readWord) args s) = true := hE.w 815 (by decide +kernel) rfl
theorem wd_816 {s : State} (hE : EX s) {args : Array Value} : (Cond.before (.selects RX7 yX7_readWord yX7_readWord) args s) = true := hE.w 816 (by decide +kernel) rfl
theorem wd_817 {s : State} (hE : EX s) {args : Array Value} : (Cond.before (.code yX7_readWord cX7_readWord 6 (some .boolean)) args s) = true := hE.w 817 (by decide +kernel) rfl
theorem wd_885 {s : State} (hE : EX s) {args : Array Value} : (Cond.before (.methodLink RL 49 yX11_number) args s) = true := hE.w 885 (by decide +kernel) rfl
theorem wd_886 {s : State} (hE : EX s) {args : Array Value} : (Cond.before (.instanceMethod yX11_number) args s) = true := hE.w 886 (by decide +kernel) rfl
theorem wd_887 {s : State} (hE : EX s) {args : Array Value} : (Cond.before (.selects RX11 yX11_number yX11_number) args s) = true := hE.w 887 (by decide +kernel) rfl
theorem wd_888 {s : State} (hE : EX s) {args : Array Value} : (Cond.before (.code yX11_number cX11_number 3 (some .int)) args s) = true := hE.w 888 (by decide +kernel) rfl
theorem wd_890 {s : State} (hE : EX s) {args : Array Value} : (Cond.before (.methodLink RL 53 yX11_step) args s) = true := hE.w 890 (by decide +kernel) rfl
theorem wd_891 {s : State} (hE : EX s) {args : Array Value} : (Cond.before (.instanceMethod yX11_step) args s) = true := hE.w 891 (by decide +kernel) rfl
theorem wd_892 {s : State} (hE : EX s) {args : Array Value} : (Cond.before (.selects RX11 yX11_step yX11_step) args s) = true := hE.w 892 (by decide +kernel) rfl
theorem wd_893 {s : State} (hE : EX s) {args : Array Value} : (Cond.before (.code yX11_step cX11_step 3 (some .int)) args s) = true := hE.w 893 (by decide +kernel) rfl
theorem wd_895 {s : State} (hE : EX s) {args : Array Value} : (Cond.before (.methodLink RL 57 yX11_take) args s) = true := hE.w 895 (by decide +kernel) rfl
theorem wd_896 {s : State} (hE : EX s) {args : Array Value} : (Cond.before (.instanceMethod yX11_take) args s) = true := hE.w 896 (by decide +kernel) rfl
theorem wd_897 {s : State} (hE : EX s) {args : Array Value} : (Cond.before (.selects RX11 yX11_take yX11_take) args s) = true := hE.w 897 (by decide +kernel) rfl
theorem wd_898 {s : State} (hE : EX s) {args : Array Value} : (Cond.before (.code yX11_take cX11_take 3 (some .int)) args s) = true := hE.w 898 (by decide +kernel) rfl
theorem wd_907 {s : State} (hE : EX s) {args : Array Value} : (Cond.before (.methodLink RL 61 yX11_form) args s) = true := hE.w 907 (by decide +kernel) rfl
theorem wd_908 {s : State} (hE : EX s) {args : Array Value} : (Cond.before (.instanceMethod yX11_form) args s) = true := hE.w 908 (by decide +kernel) rfl
theorem wd_909 {s : State} (hE : EX s) {args : Array Value} : (Cond.before (.selects RX11 yX11_form yX11_form) args s) = true := hE.w 909 (by decide +kernel) rfl
theorem wd_910 {s : State} (hE : EX s) {args : Array Value} : (Cond.before (.code yX11_form cX11_form 2 (some .int)) args s) = true := hE.w 910 (by decide +kernel) rfl
theorem wd_912 {s : State} (hE : EX s) {args : Array Value} : (Cond.before (.methodLink RL 65 yX11_times) args s) = true := hE.w 912 (by decide +kernel) rfl
theorem wd_913 {s : State} (hE : EX s) {args : Array Value} : (Cond.before (.instanceMethod yX11_times) args s) = true := hE.w 913 (by decide +kernel) rfl
theorem wd_914 {s : State} (hE : EX s) {args : Array Value} : (Cond.before (.selects RX11 yX11_times yX11_times) args s) = true := hE.w 914 (by decide +kernel) rfl
theorem wd_915 {s : State} (hE : EX s) {args : Array Value} : (Cond.before (.code yX11_times cX11_times 3 (some .int)) args s) = true := hE.w 915 (by decide +kernel) rfl
theorem wd_916 {s : State} (hE : EX s) {args : Array Value} : (Cond.before (.methodLink RX11 219 yX11_readTwo) args s) = true := hE.w 916 (by decide +kernel) rfl
theorem wd_918 {s : State} (hE : EX s) {args : Array Value} : (Cond.before (.instanceMethod yX11_readTwo) args s) = true := hE.w 918 (by decide +kernel) rfl
theorem wd_919 {s : State} (hE : EX s) {args : Array Value} : (Cond.before (.code yX11_readTwo cX11_readTwo 3 (some .boolean)) args s) = true := hE.w 919 (by decide +kernel) rfl
theorem wd_923 {s : State} (hE : EX s) {args : Array Value} : (Cond.before (.methodLink RL 69 yX11_turned) args s) = true := hE.w 923 (by decide +kernel) rfl
theorem wd_924 {s : State} (hE : EX s) {args : Array Value} : (Cond.before (.instanceMethod yX11_turned) args s) = true := hE.w 924 (by decide +kernel) rfl
theorem wd_925 {s : State} (hE : EX s) {args : Array Value} : (Cond.before (.selects RX11 yX11_turned yX11_turned) args s) = true := hE.w 925 (by decide +kernel) rfl
theorem wd_926 {s : State} (hE : EX s) {args : Array Value} : (Cond.before (.code yX11_turned cX11_turned 2 (some .int)) args s) = true := hE.w 926 (by decide +kernel) rfl
theorem wd_934 {s : State} (hE : EX s) {args : Array Value} : (Cond.before (.methodLink RL 73 yX11_power) args s) = true := hE.w 934 (by decide +kernel) rfl
theorem wd_935 {s : State} (hE : EX s) {args : Array Value} : (Cond.before (.instanceMethod yX11_power) args s) = true := hE.w 935 (by decide +kernel) rfl
theorem wd_936 {s : State} (hE : EX s) {args : Array Value} : (Cond.before (.selects RX11 yX11_power yX11_power) args s) = true := hE.w 936 (by decide +kernel) rfl
theorem wd_937 {s : State} (hE : EX s) {args : Array Value} : (Cond.before (.code yX11_power cX11_power 5 (some .int)) args s) = true := hE.w 937 (by decide +kernel) rfl
theorem wd_938 {s : State} (hE : EX s) {args : Array Value} : (Cond.before (.methodLink RX11 231 yX11_cannotGrowFromLoop) args s) = true := hE.w 938 (by decide +kernel) rfl
theorem wd_940 {s : State} (hE : EX s) {args : Array Value} : (Cond.before (.instanceMethod yX11_cannotGrowFromLoop) args s) = true := hE.w 940 (by decide +kernel) rfl
theorem wd_941 {s : State} (hE : EX s) {args : Array Value} : (Cond.before (.code yX11_cannotGrowFromLoop cX11_cannotGrowFromLoop 3 (some .int)) args s) = true := hE.w 941 (by decide +kernel) rfl
theorem wd_942 {s : State} (hE : EX s) {args : Array Value} : (Cond.before (.methodLink RX11 295 yX11_readLoop) args s) = true := hE.w 942 (by decide +kernel) rfl
theorem wd_944 {s : State} (hE : EX s) {args : Array Value} : (Cond.before (.instanceMethod yX11_readLoop) args s) = true := hE.w 944 (by decide +kernel) rfl
theorem wd_945 {s : State} (hE : EX s) {args : Array Value} : (Cond.before (.code yX11_readLoop cX11_readLoop 2 (some .int)) args s) = true := hE.w 945 (by decide +kernel) rfl
theorem wd_956 {s : State} (hE : EX s) {args : Array Value} : (Cond.before (.methodLink RL 77 yX11_core) args s) = true := hE.w 956 (by decide +kernel) rfl
theorem wd_957 {s : State} (hE : EX s) {args : Array Value} : (Cond.before (.instanceMethod yX11_core) args s) = true := hE.w 957 (by decide +kernel) rfl
theorem wd_958 {s : State} (hE : EX s) {args : Array Value} : (Cond.before (.selects RX11 yX11_core yX11_core) args s) = true := hE.w 958 (by decide +kernel) rfl
theorem wd_959 {s : State} (hE : EX s) {args : Array Value} : (Cond.before (.code yX11_core cX11_core 3 (some .int)) args s) = true := hE.w 959 (by decide +kernel) rfl
theorem wd_972 {s : State} (hE : EX s) {args : Array Value} : (Cond.before (.methodLink RL 81 yX11_spell) args s) = true := hE.w 972 (by decide +kernel) rfl
theorem wd_973 {s : State} (hE : EX s) {args : Array Value} : (Cond.before (.instanceMethod yX11_spell) args s) = true := hE.w 973 (by decide +kernel) rfl
theorem wd_974 {s : State} (hE : EX s) {args : Array Value} : (Cond.before (.selects RX11 yX11_spell yX11_spell) args s) = true := hE.w 974 (by decide +kernel) rfl
theorem wd_975 {s : State} (hE : EX s) {args : Array Value} : (Cond.before (.code yX11_spell cX11_spell 4 (some .int)) args s) = true := hE.w 975 (by decide +kernel) rfl
theorem wd_1030 {s : State} (hE : EX s) {args : Array Value} : (Cond.before (.methodLink RL 86 yX11_drop) args s) = true := hE.w 1030 (by decide +kernel) rfl
theorem wd_1031 {s : State} (hE : EX s) {args : Array Value} : (Cond.before (.instanceMethod yX11_drop) args s) = true := hE.w 1031 (by decide +kernel) rfl
theorem wd_1032 {s : State} (hE : EX s) {args : Array Value} : (Cond.before (.selects RX11 yX11_drop yX11_drop) args s) = true := hE.w 1032 (by decide +kernel) rfl
theorem wd_1033 {s : State} (hE : EX s) {args : Array Value} : (Cond.before (.code yX11_drop cX11_drop 2 (some .int)) args s) = true := hE.w 1033 (by decide +kernel) rfl
theorem wd_1034 {s : State} (hE : EX s) {args : Array Value} : (Cond.before (.methodLink RX11 256 yX7_hasWord) args s) = true := hE.w 1034 (by decide +kernel) rfl
theorem wd_1039 {s : State} (hE : EX s) {args : Array Value} : (Cond.before (.methodLink RL 90 yX11_undo) args s) = true := hE.w 1039 (by decide +kernel) rfl
theorem wd_1040 {s : State} (hE : EX s) {args : Array Value} : (Cond.before (.instanceMethod yX11_undo) args s) = true := hE.w 1040 (by decide +kernel) rfl
theorem wd_1041 {s : State} (hE : EX s) {args : Array Value} : (Cond.before (.selects RX11 yX11_undo yX11_undo) args s) = true := hE.w 1041 (by decide +kernel) rfl
theorem wd_1042 {s : State} (hE : EX s) {args : Array Value} : (Cond.before (.code yX11_undo cX11_undo 1 (some .int)) args s) = true := hE.w 1042 (by decide +kernel) rfl
theorem wd_1043 {s : State} (hE : EX s) {args : Array Value} : (Cond.before (.methodLink RX11 262 yX3_pop) args s) = true := hE.w 1043 (by decide +kernel) rfl
theorem wd_1044 {s : State} (hE : EX s) {args : Array Value} : (Cond.before (.instanceMethod yX3_pop) args s) = true := hE.w 1044 (by decide +kernel) rfl
theorem wd_1045 {s : State} (hE : EX s) {args : Array Value} : (Cond.before (.selects RX3 yX3_pop yX3_pop) args s) = true := hE.w 1045 (by decide +kernel) rfl
theorem wd_1046 {s : State} (hE : EX s) {args : Array Value} : (Cond.before (.code yX3_pop cX3_pop 3 (some .boolean)) args s) = true := hE.w 1046 (by decide +kernel) rfl
theorem wd_1047 {s : State} (hE : EX s) {args : Array Value} : (Cond.before (.methodLink RL 94 yX11_mark) args s) = true := hE.w 1047 (by decide +kernel) rfl
theorem wd_1048 {s : State} (hE : EX s) {args : Array Value} : (Cond.before (.instanceMethod yX11_mark) args s) = true := hE.w 1048 (by decide +kernel) rfl
theorem wd_1049 {s : State} (hE : EX s) {args : Array Value} : (Cond.before (.selects RX11 yX11_mark yX11_mark) args s) = true := hE.w 1049 (by decide +kernel) rfl
theorem wd_1050 {s : State} (hE : EX s) {args : Array Value} : (Cond.before (.code yX11_mark cX11_mark 3 (some .int)) args s) = true := hE.w 1050 (by decide +kernel) rfl
theorem wd_1051 {s : State} (hE : EX s) {args : Array Value} : (Cond.before (.methodLink RX11 266 yX3_copyFrom) args s) = true := hE.w 1051 (by decide +kernel) rfl
theorem wd_1052 {s : State} (hE : EX s) {args : Array Value} : (Cond.before (.instanceMethod yX3_copyFrom) args s) = true := hE.w 1052 (by decide +kernel) rfl
theorem wd_1053 {s : State} (hE : EX s) {args : Array Value} : (Cond.before (.selects RX3 yX3_copyFrom yX3_copyFrom) args s) = true := hE.w 1053 (by decide +kernel) rfl
theorem wd_1054 {s : State} (hE : EX s) {args : Array Value} : (Cond.before (.code yX3_copyFrom cX3_copyFrom 4 none) args s) = true := hE.w 1054 (by decide +kernel) rfl
theorem wd_1056 {s : State} (hE : EX s) {args : Array Value} : (Cond.before (.methodLink RL 98 yX11_back) args s) = true := hE.w 1056 (by decide +kernel) rfl
theorem wd_1057 {s : State} (hE : EX s) {args : Array Value} : (Cond.before (.instanceMethod yX11_back) args s) = true := hE.w 1057 (by decide +kernel) rfl
theorem wd_1058 {s : State} (hE : EX s) {args : Array Value} : (Cond.before (.selects RX11 yX11_back yX11_back) args s) = true := hE.w 1058 (by decide +kernel) rfl
theorem wd_1059 {s : State} (hE : EX s) {args : Array Value} : (Cond.before (.code yX11_back cX11_back 4 (some .int)) args s) = true := hE.w 1059 (by decide +kernel) rfl
theorem wd_1060 {s : State} (hE : EX s) {args : Array Value} : (Cond.before (.methodLink RL 102 yX11_alike) args s) = true := hE.w 1060 (by decide +kernel) rfl
theorem wd_1061 {s : State} (hE : EX s) {args : Array Value} : (Cond.before (.instanceMethod yX11_alike) args s) = true := hE.w 1061 (by decide +kernel) rfl
theorem wd_1062 {s : State} (hE : EX s) {args : Array Value} : (Cond.before (.selects RX11 yX11_alike yX11_alike) args s) = true := hE.w 1062 (by decide +kernel) rfl
theorem wd_1063 {s : State} (hE : EX s) {args : Array Value} : (Cond.before (.code yX11_alike cX11_alike 3 (some .int)) args s) = true := hE.w 1063 (by decide +kernel) rfl
theorem wd_1068 {s : State} (hE : EX s) {args : Array Value} : (Cond.before (.methodLink RL 106 yX11_steps) args s) = true := hE.w 1068 (by decide +kernel) rfl
theorem wd_1069 {s : State} (hE : EX s) {args : Array Value} : (Cond.before (.instanceMethod yX11_steps) args s) = true := hE.w 1069 (by decide +kernel) rfl
theorem wd_1070 {s : State} (hE : EX s) {args : Array Value} : (Cond.before (.selects RX11 yX11_steps yX11_steps) args s) = true := hE.w 1070 (by decide +kernel) rfl
theorem wd_1071 {s : State} (hE : EX s) {args : Array Value} : (Cond.before (.code yX11_steps cX11_steps 2 (some .int)) args s) = true := hE.w 1071 (by decide +kernel) rfl
theorem wd_1072 {s : State} (hE : EX s) {args : Array Value} : (Cond.before (.methodLink RL 110 yX11_length) args s) = true := hE.w 1072 (by decide +kernel) rfl
theorem wd_1073 {s : State} (hE : EX s) {args : Array Value} : (Cond.before (.instanceMethod yX11_length) args s) = true := hE.w 1073 (by decide +kernel) rfl
theorem wd_1074 {s : State} (hE : EX s) {args : Array Value} : (Cond.before (.selects RX11 yX11_length yX11_length) args s) = true := hE.w 1074 (by decide +kernel) rfl
theorem wd_1075 {s : State} (hE : EX s) {args : Array Value} : (Cond.before (.code yX11_length cX11_length 3 (some .int)) args s) = true := hE.w 1075 (by decide +kernel) rfl
theorem wd_1076 {s : State} (hE : EX s) {args : Array Value} : (Cond.before (.methodLink RX11 273 yX11_readCore) args s) = true := hE.w 1076 (by decide +kernel) rfl
theorem wd_1078 {s : State} (hE : EX s) {args : Array Value} : (Cond.before (.instanceMethod yX11_readCore) args s) = true := hE.w 1078 (by decide +kernel) rfl
theorem wd_1079 {s : State} (hE : EX s) {args : Array Value} : (Cond.before (.code yX11_readCore cX11_readCore 3 (some .int)) args s) = true := hE.w 1079 (by decide +kernel) rfl
theorem wd_1080 {s : State} (hE : EX s) {args : Array Value} : (Cond.before (.methodLink RL 114 yX11_orderOf) args s) = true := hE.w 1080 (by decide +kernel) rfl
theorem wd_1081 {s : State} (hE : EX s) {args : Array Value} : (Cond.before (.instanceMethod yX11_orderOf) args s) = true := hE.w 1081 (by decide +kernel) rfl
theorem wd_1082 {s : State} (hE : EX s) {args : Array Value} : (Cond.before (.selects RX11 yX11_orderOf yX11_orderOf) args s) = true := hE.w 1082 (by decide +kernel) rfl
theorem wd_1083 {s : State} (hE : EX s) {args : Array Value} : (Cond.before (.code yX11_orderOf cX11_orderOf 3 (some .int)) args s) = true := hE.w 1083 (by decide +kernel) rfl
theorem wd_1094 {s : State} (hE : EX s) {args : Array Value} : (Cond.before (.methodLink RL 118 yX11_kin) args s) = true := hE.w 1094 (by decide +kernel) rfl
theorem wd_1095 {s : State} (hE : EX s) {args : Array Value} : (Cond.before (.instanceMethod yX11_kin) args s) = true := hE.w 1095 (by decide +kernel) rfl
theorem wd_1096 {s : State} (hE : EX s) {args : Array Value} : (Cond.before (.selects RX11 yX11_kin yX11_kin) args s) = true := hE.w 1096 (by decide +kernel) rfl
theorem wd_1097 {s : State} (hE : EX s) {args : Array Value} : (Cond.before (.code yX11_kin cX11_kin 4 (some .int)) args s) = true := hE.w 1097 (by decide +kernel) rfl
theorem wd_1098 {s : State} (hE : EX s) {args : Array Value} : (Cond.before (.methodLink RX11 279 yX11_readTwoLoops) args s) = true := hE.w 1098 (by decide +kernel) rfl
theorem wd_1100 {s : State} (hE : EX s) {args : Array Value} : (Cond.before (.instanceMethod yX11_readTwoLoops) args s) = true := hE.w 1100 (by decide +kernel) rfl
theorem wd_1101 {s : State} (hE : EX s) {args : Array Value} : (Cond.before (.code yX11_readTwoLoops cX11_readTwoLoops 3 (some .int)) args s) = true := hE.w 1101 (by decide +kernel) rfl
theorem wd_1170 {s : State} (hE : EX s) {args : Array Value} : (Cond.before (.methodLink RL 122 yX11_kinBy) args s) = true := hE.w 1170 (by decide +kernel) rfl
theorem wd_1171 {s : State} (hE : EX s) {args : Array Value} : (Cond.before (.instanceMethod yX11_kinBy) args s) = true := hE.w 1171 (by decide +kernel) rfl
theorem wd_1172 {s : State} (hE : EX s) {args : Array Value} : (Cond.before (.selects RX11 yX11_kinBy yX11_kinBy) args s) = true := hE.w 1172 (by decide +kernel) rfl
theorem wd_1173 {s : State} (hE : EX s) {args : Array Value} : (Cond.before (.code yX11_kinBy cX11_kinBy 5 (some .int)) args s) = true := hE.w 1173 (by decide +kernel) rfl
theorem wd_1182 {s : State} (hE : EX s) {args : Array Value} : (Cond.before (.methodLink RL 126 yX11_kins) args s) = true := hE.w 1182 (by decide +kernel) rfl
theorem wd_1183 {s : State} (hE : EX s) {args : Array Value} : (Cond.before (.instanceMethod yX11_kins) args s) = true := hE.w 1183 (by decide +kernel) rfl
theorem wd_1184 {s : State} (hE : EX s) {args : Array Value} : (Cond.before (.selects RX11 yX11_kins yX11_kins) args s) = true := hE.w 1184 (by decide +kernel) rfl
theorem wd_1185 {s : State} (hE : EX s) {args : Array Value} : (Cond.before (.code yX11_kins cX11_kins 5 (some .int)) args s) = true := hE.w 1185 (by decide +kernel) rfl
theorem wd_1186 {s : State} (hE : EX s) {args : Array Value} : (Cond.before (.methodLink RL 130 yX11_net) args s) = true := hE.w 1186 (by decide +kernel) rfl
theorem wd_1187 {s : State} (hE : EX s) {args : Array Value} : (Cond.before (.instanceMethod yX11_net) args s) = true := hE.w 1187 (by decide +kernel) rfl
theorem wd_1188 {s : State} (hE : EX s) {args : Array Value} : (Cond.before (.selects RX11 yX11_net yX11_net) args s) = true := hE.w 1188 (by decide +kernel) rfl
theorem wd_1189 {s : State} (hE : EX s) {args : Array Value} : (Cond.before (.code yX11_net cX11_net 6 (some .int)) args s) = true := hE.w 1189 (by decide +kernel) rfl
theorem wd_1191 {s : State} (hE : EX s) {args : Array Value} : (Cond.before (.methodLink RL 134 yX11_central) args s) = true := hE.w 1191 (by decide +kernel) rfl
theorem wd_1192 {s : State} (hE : EX s) {args : Array Value} : (Cond.before (.instanceMethod yX11_central) args s) = true := hE.w 1192 (by decide +kernel) rfl
theorem wd_1193 {s : State} (hE : EX s) {args : Array Value} : (Cond.before (.selects RX11 yX11_central yX11_central) args s) = true := hE.w 1193 (by decide +kernel) rfl
theorem wd_1194 {s : State} (hE : EX s) {args : Array Value} : (Cond.before (.code yX11_central cX11_central 5 (some .int)) args s) = true := hE.w 1194 (by decide +kernel) rfl
theorem wd_1200 {s : State} (hE : EX s) {args : Array Value} : (Cond.before (.methodLink RX6 62 yX7_edges) args s) = true := hE.w 1200 (by decide +kernel) rfl
theorem wd_1204 {s : State} (hE : EX s) {args : Array Value} : (Cond.before (.methodLink RL 138 yX11_centre) args s) = true := hE.w 1204 (by decide +kernel) rfl
theorem wd_1205 {s : State} (hE : EX s) {args : Array Value} : (Cond.before (.instanceMethod yX11_centre) args s) = true := hE.w 1205 (by decide +kernel) rfl
theorem wd_1206 {s : State} (hE : EX s) {args : Array Value} : (Cond.before (.selects RX11 yX11_centre yX11_centre) args s) = true := hE.w 1206 (by decide +kernel) rfl
theorem wd_1207 {s : State} (hE : EX s) {args : Array Value} : (Cond.before (.code yX11_centre cX11_centre 2 (some .int)) args s) = true := hE.w 1207 (by decide +kernel) rfl
theorem wd_1208 {s : State} (hE : EX s) {args : Array Value} : (Cond.before (.methodLink RL 142 yX11_having) args s) = true := hE.w 1208 (by decide +kernel) rfl
theorem wd_1209 {s : State} (hE : EX s) {args : Array Value} : (Cond.before (.instanceMethod yX11_having) args s) = true := hE.w 1209 (by decide +kernel) rfl
theorem wd_1210 {s : State} (hE : EX s) {args : Array Value} : (Cond.before (.selects RX11 yX11_having yX11_having) args s) = true := hE.w 1210 (by decide +kernel) rfl
theorem wd_1211 {s : State} (hE : EX s) {args : Array Value} : (Cond.before (.code yX11_having cX11_having 6 (some .int)) args s) = true := hE.w 1211 (by decide +kernel) rfl
theorem wd_1212 {s : State} (hE : EX s) {args : Array Value} : (Cond.before (.methodLink RL 146 yX11_root) args s) = true := hE.w 1212 (by decide +kernel) rfl
theorem wd_1213 {s : State} (hE : EX s) {args : Array Value} : (Cond.before (.instanceMethod yX11_root) args s) = true := hE.w 1213 (by decide +kernel) rfl
theorem wd_1214 {s : State} (hE : EX s) {args : Array Value} : (Cond.before (.selects RX11 yX11_root yX11_root) args s) = true := hE.w 1214 (by decide +kernel) rfl
theorem wd_1215 {s : State} (hE : EX s) {args : Array Value} : (Cond.before (.code yX11_root cX11_root 3 (some .int)) args s) = true := hE.w 1215 (by decide +kernel) rfl
theorem wd_1235 {s : State} (hE : EX s) {args : Array Value} : (Cond.before (.methodLink RL 150 yX11_swaps) args s) = true := hE.w 1235 (by decide +kernel) rfl
theorem wd_1236 {s : State} (hE : EX s) {args : Array Value} : (Cond.before (.instanceMethod yX11_swaps) args s) = true := hE.w 1236 (by decide +kernel) rfl
theorem wd_1237 {s : State} (hE : EX s) {args : Array Value} : (Cond.before (.selects RX11 yX11_swaps yX11_swaps) args s) = true := hE.w 1237 (by decide +kernel) rfl
theorem wd_1238 {s : State} (hE : EX s) {args : Array Value} : (Cond.before (.code yX11_swaps cX11_swaps 4 (some .int)) args s) = true := hE.w 1238 (by decide +kernel) rfl
theorem wd_1239 {s : State} (hE : EX s) {args : Array Value} : (Cond.before (.methodLink RL 154 yX11_alikes) args s) = true := hE.w 1239 (by decide +kernel) rfl
theorem wd_1240 {s : State} (hE : EX s) {args : Array Value} : (Cond.before (.instanceMethod yX11_alikes) args s) = true := hE.w 1240 (by decide +kernel) rfl
theorem wd_1241 {s : State} (hE : EX s) {args : Array Value} : (Cond.before (.selects RX11 yX11_alikes yX11_alikes) args s) = true := hE.w 1241 (by decide +kernel) rfl
theorem wd_1242 {s : State} (hE : EX s) {args : Array Value} : (Cond.before (.code yX11_alikes cX11_alikes 4 (some .int)) args s) = true := hE.w 1242 (by decide +kernel) rfl
theorem wd_1243 {s : State} (hE : EX s) {args : Array Value} : (Cond.before (.methodLink RL 158 yX11_twin) args s) = true := hE.w 1243 (by decide +kernel) rfl
theorem wd_1244 {s : State} (hE : EX s) {args : Array Value} : (Cond.before (.instanceMethod yX11_twin) args s) = true := hE.w 1244 (by decide +kernel) rfl
theorem wd_1245 {s : State} (hE : EX s) {args : Array Value} : (Cond.before (.selects RX11 yX11_twin yX11_twin) args s) = true := hE.w 1245 (by decide +kernel) rfl
theorem wd_1246 {s : State} (hE : EX s) {args : Array Value} : (Cond.before (.code yX11_twin cX11_twin 3 (some .int)) args s) = true := hE.w 1246 (by decide +kernel) rfl
theorem wd_1247 {s : State} (hE : EX s) {args : Array Value} : (Cond.before (.methodLink RL 162 yX11_apart) args s) = true := hE.w 1247 (by decide +kernel) rfl
theorem wd_1248 {s : State} (hE : EX s) {args : Array Value} : (Cond.before (.instanceMethod yX11_apart) args s) = true := hE.w 1248 (by decide +kernel) rfl
theorem wd_1249 {s : State} (hE : EX s) {args : Array Value} : (Cond.before (.selects RX11 yX11_apart yX11_apart) args s) = true := hE.w 1249 (by decide +kernel) rfl
theorem wd_1250 {s : State} (hE : EX s) {args : Array Value} : (Cond.before (.code yX11_apart cX11_apart 4 (some .int)) args s) = true := hE.w 1250 (by decide +kernel) rfl
theorem wd_1251 {s : State} (hE : EX s) {args : Array Value} : (Cond.before (.methodLink RX11 312 yX11_readWay) args s) = true := hE.w 1251 (by decide +kernel) rfl
theorem wd_1253 {s : State} (hE : EX s) {args : Array Value} : (Cond.before (.instanceMethod yX11_readWay) args s) = true := hE.w 1253 (by decide +kernel) rfl
theorem wd_1254 {s : State} (hE : EX s) {args : Array Value} : (Cond.before (.code yX11_readWay cX11_readWay 3 (some .int)) args s) = true := hE.w 1254 (by decide +kernel) rfl
theorem wd_1255 {s : State} (hE : EX s) {args : Array Value} : (Cond.before (.methodLink RL 166 yX11_moves) args s) = true := hE.w 1255 (by decide +kernel) rfl
theorem wd_1256 {s : State} (hE : EX s) {args : Array Value} : (Cond.before (.instanceMethod yX11_moves) args s) = true := hE.w 1256 (by decide +kernel) rfl
theorem wd_1257 {s : State} (hE : EX s) {args : Array Value} : (Cond.before (.selects RX11 yX11_moves yX11_moves) args s) = true := hE.w 1257 (by decide +kernel) rfl
theorem wd_1258 {s : State} (hE : EX s) {args : Array Value} : (Cond.before (.code yX11_moves cX11_moves 3 (some .int)) args s) = true := hE.w 1258 (by decide +kernel) rfl
theorem wd_1259 {s : State} (hE : EX s) {args : Array Value} : (Cond.before (.methodLink RL 170 yX11_way) args s) = true := hE.w 1259 (by decide +kernel) rfl
theorem wd_1260 {s : State} (hE : EX s) {args : Array Value} : (Cond.before (.instanceMethod yX11_way) args s) = true := hE.w 1260 (by decide +kernel) rfl
theorem wd_1261 {s : State} (hE : EX s) {args : Array Value} : (Cond.before (.selects RX11 yX11_way yX11_way) args s) = true := hE.w 1261 (by decide +kernel) rfl
theorem wd_1262 {s : State} (hE : EX s) {args : Array Value} : (Cond.before (.code yX11_way cX11_way 5 (some .int)) args s) = true := hE.w 1262 (by decide +kernel) rfl
theorem wd_1264 {s : State} (hE : EX s) {args : Array Value} : (Cond.before (.methodLink RL 174 yX11_holds) args s) = true := hE.w 1264 (by decide +kernel) rfl
theorem wd_1265 {s : State} (hE : EX s) {args : Array Value} : (Cond.before (.instanceMethod yX11_holds) args s) = true := hE.w 1265 (by decide +kernel) rfl
theorem wd_1266 {s : State} (hE : EX s) {args : Array Value} : (Cond.before (.selects RX11 yX11_holds yX11_holds) args s) = true := hE.w 1266 (by decide +kernel) rfl
theorem wd_1267 {s : State} (hE : EX s) {args : Array Value} : (Cond.before (.code yX11_holds cX11_holds 5 (some .long)) args s) = true := hE.w 1267 (by decide +kernel) rfl
theorem wd_1278 {s : State} (hE : EX s) {args : Array Value} : (Cond.before (.methodLink RL 179 yX11_axis) args s) = true := hE.w 1278 (by decide +kernel) rfl
theorem wd_1279 {s : State} (hE : EX s) {args : Array Value} : (Cond.before (.instanceMethod yX11_axis) args s) = true := hE.w 1279 (by decide +kernel) rfl
theorem wd_1280 {s : State} (hE : EX s) {args : Array Value} : (Cond.before (.selects RX11 yX11_axis yX11_axis) args s) = true := hE.w 1280 (by decide +kernel) rfl
theorem wd_1281 {s : State} (hE : EX s) {args : Array Value} : (Cond.before (.code yX11_axis cX11_axis 4 (some .int)) args s) = true := hE.w 1281 (by decide +kernel) rfl
theorem wd_1283 {s : State} (hE : EX s) {args : Array Value} : (Cond.before (.methodLink RL 183 yX11_ball) args s) = true := hE.w 1283 (by decide +kernel) rfl
theorem wd_1284 {s : State} (hE : EX s) {args : Array Value} : (Cond.before (.instanceMethod yX11_ball) args s) = true := hE.w 1284 (by decide +kernel) rfl
theorem wd_1285 {s : State} (hE : EX s) {args : Array Value} : (Cond.before (.selects RX11 yX11_ball yX11_ball) args s) = true := hE.w 1285 (by decide +kernel) rfl
theorem wd_1286 {s : State} (hE : EX s) {args : Array Value} : (Cond.before (.code yX11_ball cX11_ball 3 (some .long)) args s) = true := hE.w 1286 (by decide +kernel) rfl
theorem wd_1287 {s : State} (hE : EX s) {args : Array Value} : (Cond.before (.methodLink RL 187 yX11_sphere) args s) = true := hE.w 1287 (by decide +kernel) rfl
theorem wd_1288 {s : State} (hE : EX s) {args : Array Value} : (Cond.before (.instanceMethod yX11_sphere) args s) = true := hE.w 1288 (by decide +kernel) rfl
theorem wd_1289 {s : State} (hE : EX s) {args : Array Value} : (Cond.before (.selects RX11 yX11_sphere yX11_sphere) args s) = true := hE.w 1289 (by decide +kernel) rfl
theorem wd_1290 {s : State} (hE : EX s) {args : Array Value} : (Cond.before (.code yX11_sphere cX11_sphere 3 (some .long)) args s) = true := hE.w 1290 (by decide +kernel) rfl
theorem wd_1291 {s : State} (hE : EX s) {args : Array Value} : (Cond.before (.methodLink RL 191 yX11_listed) args s) = true := hE.w 1291 (by decide +kernel) rfl
theorem wd_1292 {s : State} (hE : EX s) {args : Array Value} : (Cond.before (.instanceMethod yX11_listed) args s) = true := hE.w 1292 (by decide +kernel) rfl
theorem wd_1293 {s : State} (hE : EX s) {args : Array Value} : (Cond.before (.selects RX11 yX11_listed yX11_listed) args s) = true := hE.w 1293 (by decide +kernel) rfl
theorem wd_1294 {s : State} (hE : EX s) {args : Array Value} : (Cond.before (.code yX11_listed cX11_listed 3 (some .long)) args s) = true := hE.w 1294 (by decide +kernel) rfl
theorem wd_1303 {s : State} (hE : EX s) {args : Array Value} : (Cond.before (.methodLink RL 196 yX11_near) args s) = true := hE.w 1303 (by decide +kernel) rfl
theorem wd_1304 {s : State} (hE : EX s) {args : Array Value} : (Cond.before (.instanceMethod yX11_near) args s) = true := hE.w 1304 (by decide +kernel) rfl
theorem wd_1305 {s : State} (hE : EX s) {args : Array Value} : (Cond.before (.selects RX11 yX11_near yX11_near) args s) = true := hE.w 1305 (by decide +kernel) rfl
theorem wd_1306 {s : State} (hE : EX s) {args : Array Value} : (Cond.before (.code yX11_near cX11_near 5 (some .int)) args s) = true := hE.w 1306 (by decide +kernel) rfl
theorem wd_1307 {s : State} (hE : EX s) {args : Array Value} : (Cond.before (.methodLink RL 200 yX11_meet) args s) = true := hE.w 1307 (by decide +kernel) rfl
theorem wd_1308 {s : State} (hE : EX s) {args : Array Value} : (Cond.before (.instanceMethod yX11_meet) args s) = true := hE.w 1308 (by decide +kernel) rfl
theorem wd_1309 {s : State} (hE : EX s) {args : Array Value} : (Cond.before (.selects RX11 yX11_meet yX11_meet) args s) = true := hE.w 1309 (by decide +kernel) rfl
theorem wd_1310 {s : State} (hE : EX s) {args : Array Value} : (Cond.before (.code yX11_meet cX11_meet 4 (some .int)) args s) = true := hE.w 1310 (by decide +kernel) rfl
theorem wd_1313 {s : State} (hE : EX s) {args : Array Value} : (Cond.before (.methodLink RL 204 yX11_tell) args s) = true := hE.w 1313 (by decide +kernel) rfl
theorem wd_1314 {s : State} (hE : EX s) {args : Array Value} : (Cond.before (.instanceMethod yX11_tell) args s) = true := hE.w 1314 (by decide +kernel) rfl
theorem wd_1315 {s : State} (hE : EX s) {args : Array Value} : (Cond.before (.selects RX11 yX11_tell yX11_tell) args s) = true := hE.w 1315 (by decide +kernel) rfl
theorem wd_1316 {s : State} (hE : EX s) {args : Array Value} : (Cond.before (.code yX11_tell cX11_tell 2 (some .int)) args s) = true := hE.w 1316 (by decide +kernel) rfl
theorem wd_1336 {s : State} (hE : EX s) {args : Array Value} : (Cond.before (.methodLink RL 208 yX11_out) args s) = true := hE.w 1336 (by decide +kernel) rfl
theorem wd_1337 {s : State} (hE : EX s) {args : Array Value} : (Cond.before (.instanceMethod yX11_out) args s) = true := hE.w 1337 (by decide +kernel) rfl
theorem wd_1338 {s : State} (hE : EX s) {args : Array Value} : (Cond.before (.selects RX11 yX11_out yX11_out) args s) = true := hE.w 1338 (by decide +kernel) rfl
theorem wd_1339 {s : State} (hE : EX s) {args : Array Value} : (Cond.before (.code yX11_out cX11_out 2 (some .int)) args s) = true := hE.w 1339 (by decide +kernel) rfl
theorem wd_1340 {s : State} (hE : EX s) {args : Array Value} : (Cond.before (.methodLink RX11 342 yX8_size) args s) = true := hE.w 1340 (by decide +kernel) rfl
theorem wd_1341 {s : State} (hE : EX s) {args : Array Value} : (Cond.before (.instanceMethod yX8_size) args s) = true := hE.w 1341 (by decide +kernel) rfl
theorem wd_1342 {s : State} (hE : EX s) {args : Array Value} : (Cond.before (.selects RX8 yX8_size yX8_size) args s) = true := hE.w 1342 (by decide +kernel) rfl
theorem wd_1343 {s : State} (hE : EX s) {args : Array Value} : (Cond.before (.code yX8_size cX8_size 1 (some .int)) args s) = true := hE.w 1343 (by decide +kernel) rfl
theorem wd_1348 {s : State} (hE : EX s) {args : Array Value} : (Cond.before (.methodLink RL 212 yX11_chi) args s) = true := hE.w 1348 (by decide +kernel) rfl
theorem wd_1349 {s : State} (hE : EX s) {args : Array Value} : (Cond.before (.instanceMethod yX11_chi) args s) = true := hE.w 1349 (by decide +kernel) rfl
theorem wd_1350 {s : State} (hE : EX s) {args : Array Value} : (Cond.before (.selects RX11 yX11_chi yX11_chi) args s) = true := hE.w 1350 (by decide +kernel) rfl
theorem wd_1351 {s : State} (hE : EX s) {args : Array Value} : (Cond.before (.code yX11_chi cX11_chi 2 (some .int)) args s) = true := hE.w 1351 (by decide +kernel) rfl
theorem wd_1352 {s : State} (hE : EX s) {args : Array Value} : (Cond.before (.methodLink RX11 346 yX6_weigh) args s) = true := hE.w 1352 (by decide +kernel) rfl
theorem wd_1353 {s : State} (hE : EX s) {args : Array Value} : (Cond.before (.instanceMethod yX6_weigh) args s) = true := hE.w 1353 (by decide +kernel) rfl
theorem wd_1354 {s : State} (hE : EX s) {args : Array Value} : (Cond.before (.selects RX6 yX6_weigh yX6_weigh) args s) = true := hE.w 1354 (by decide +kernel) rfl
theorem wd_1355 {s : State} (hE : EX s) {args : Array Value} : (Cond.before (.code yX6_weigh cX6_weigh 3 none) args s) = true := hE.w 1355 (by decide +kernel) rfl
theorem wd_1361 {s : State} (hE : EX s) {args : Array Value} : (Cond.before (.methodLink RX11 349 yX6_above) args s) = true := hE.w 1361 (by decide +kernel) rfl
theorem wd_1362 {s : State} (hE : EX s) {args : Array Value} : (Cond.before (.instanceMethod yX6_above) args s) = true := hE.w 1362 (by decide +kernel) rfl
theorem wd_1363 {s : State} (hE : EX s) {args : Array Value} : (Cond.before (.selects RX6 yX6_above yX6_above) args s) = true := hE.w 1363 (by decide +kernel) rfl
theorem wd_1364 {s : State} (hE : EX s) {args : Array Value} : (Cond.before (.code yX6_above cX6_above 1 (some .long)) args s) = true := hE.w 1364 (by decide +kernel) rfl
theorem wd_1365 {s : State} (hE : EX s) {args : Array Value} : (Cond.before (.methodLink RX11 353 yX6_below) args s) = true := hE.w 1365 (by decide +kernel) rfl
theorem wd_1366 {s : State} (hE : EX s) {args : Array Value} : (Cond.before (.instanceMethod yX6_below) args s) = true := hE.w 1366 (by decide +kernel) rfl
theorem wd_1367 {s : State} (hE : EX s) {args : Array Value} : (Cond.before (.selects RX6 yX6_below yX6_below) args s) = true := hE.w 1367 (by decide +kernel) rfl
theorem wd_1368 {s : State} (hE : EX s) {args : Array Value} : (Cond.before (.code yX6_below cX6_below 1 (some .long)) args s) = true := hE.w 1368 (by decide +kernel) rfl
theorem wd_1369 {s : State} (hE : EX s) {args : Array Value} : (Cond.before (.classLink RL 10 RX12) args s) = true := hE.w 1369 (by decide +kernel) rfl
theorem wd_1370 {s : State} (hE : EX s) {args : Array Value} : (Cond.before (.instantiable RX12 31) args s) = true := hE.w 1370 (by decide +kernel) rfl
theorem wd_1371 {s : State} (hE : EX s) {args : Array Value} : (Cond.before (.methodLink RL 12 yX12_init) args s) = true := hE.w 1371 (by decide +kernel) rfl
theorem wd_1372 {s : State} (hE : EX s) {args : Array Value} : (Cond.before (.instanceMethod yX12_init) args s) = true := hE.w 1372 (by decide +kernel) rfl
theorem wd_1373 {s : State} (hE : EX s) {args : Array Value} : (Cond.before (.code yX12_init cX12_init 1 none) args s) = true := hE.w 1373 (by decide +kernel) rfl
theorem wd_1374 {s : State} (hE : EX s) {args : Array Value} : (Cond.before (.methodLink RX12 1 objectInit) args s) = true := hE.w 1374 (by decide +kernel) rfl
theorem wd_1375 {s : State} (hE : EX s) {args : Array Value} : (Cond.before (.classLink RX12 13 "[[I") args s) = true := hE.w 1375 (by decide +kernel) rfl
theorem wd_1377 {s : State} (hE : EX s) {args : Array Value} : (Cond.before (.classLink RX12 54 "[[[J") args s) = true := hE.w 1377 (by decide +kernel) rfl
theorem wd_1380 {s : State} (hE : EX s) {args : Array Value} : (Cond.before (.constant RX12 59 (60840)) args s) = true := hE.w 1380 (by decide +kernel) rfl
theorem wd_1381 {s : State} (hE : EX s) {args : Array Value} : (Cond.before (.fieldLink RX12 7 "GluedWordsModel" "all" "[I") args s) = true := hE.w 1381 (by decide +kernel) rfl
theorem wd_1382 {s : State} (hE : EX s) {args : Array Value} : (Cond.before (.fieldLink RX12 67 "GluedWordsModel" "status" "I") args s) = true := hE.w 1382 (by decide +kernel) rfl
theorem wd_1383 {s : State} (hE : EX s) {args : Array Value} : (Cond.before (.fieldLink RX12 257 "GluedWordsModel" "acts" "I") args s) = true := hE.w 1383 (by decide +kernel) rfl
theorem wd_1384 {s : State} (hE : EX s) {args : Array Value} : (Cond.before (.fieldLink RX12 260 "GluedWordsModel" "marks" "I") args s) = true := hE.w 1384 (by decide +kernel) rfl
theorem wd_1385 {s : State} (hE : EX s) {args : Array Value} : (Cond.before (.fieldLink RX12 15 "GluedWordsModel" "hand" "[[I") args s) = true := hE.w 1385 (by decide +kernel) rfl
theorem wd_1387 {s : State} (hE : EX s) {args : Array Value} : (Cond.before (.fieldLink RX12 18 "GluedWordsModel" "long1" "[I") args s) = true := hE.w 1387 (by decide +kernel) rfl
theorem wd_1388 {s : State} (hE : EX s) {args : Array Value} : (Cond.before (.fieldLink RX12 21 "GluedWordsModel" "long2" "[I") args s) = true := hE.w 1388 (by decide +kernel) rfl
theorem wd_1389 {s : State} (hE : EX s) {args : Array Value} : (Cond.before (.fieldLink RX12 24 "GluedWordsModel" "tape" "[B") args s) = true := hE.w 1389 (by decide +kernel) rfl
theorem wd_1390 {s : State} (hE : EX s) {args : Array Value} : (Cond.before (.fieldLink RX12 28 "GluedWordsModel" "text" "[B") args s) = true := hE.w 1390 (by decide +kernel) rfl
theorem wd_1391 {s : State} (hE : EX s) {args : Array Value} : (Cond.before (.fieldLink RX12 135 "GluedWordsModel" "taped" "I") args s) = true := hE.w 1391 (by decide +kernel) rfl
theorem wd_1392 {s : State} (hE : EX s) {args : Array Value} : (Cond.before (.fieldLink RX12 142 "GluedWordsModel" "size" "I") args s) = true := hE.w 1392 (by decide +kernel) rfl
theorem wd_1393 {s : State} (hE : EX s) {args : Array Value} : (Cond.before (.fieldLink RX12 154 "GluedWordsModel" "token" "I") args s) = true := hE.w 1393 (by decide +kernel) rfl
theorem wd_1394 {s : State} (hE : EX s) {args : Array Value} : (Cond.before (.fieldLink RX12 151 "GluedWordsModel" "begin" "I") args s) = true := hE.w 1394 (by decide +kernel) rfl
theorem wd_1395 {s : State} (hE : EX s) {args : Array Value} : (Cond.before (.fieldLink RX12 145 "GluedWordsModel" "end0" "I") args s) = true := hE.w 1395 (by decide +kernel) rfl
theorem wd_1397 {s : State} (hE : EX s) {args : Array Value} : (Cond.before (.fieldLink RX12 184 "GluedWordsModel" "faults" "I") args s) = true := hE.w 1397 (by decide +kernel) rfl
theorem wd_1398 {s : State} (hE : EX s) {args : Array Value} : (Cond.before (.fieldLink RX12 31 "GluedWordsModel" "faultPlace" "I") args s) = true := hE.w 1398 (by decide +kernel) rfl
theorem wd_1399 {s : State} (hE : EX s) {args : Array Value} : (Cond.before (.fieldLink RX12 35 "GluedWordsModel" "faultLine" "I") args s) = true := hE.w 1399 (by decide +kernel) rfl
theorem wd_1400 {s : State} (hE : EX s) {args : Array Value} : (Cond.before (.fieldLink RX12 38 "GluedWordsModel" "faultKind" "I") args s) = true := hE.w 1400 (by decide +kernel) rfl
theorem wd_1401 {s : State} (hE : EX s) {args : Array Value} : (Cond.before (.fieldLink RX12 187 "GluedWordsModel" "lines" "I") args s) = true := hE.w 1401 (by decide +kernel) rfl
theorem wd_1404 {s : State} (hE : EX s) {args : Array Value} : (Cond.before (.fieldLink RX12 41 "GluedWordsModel" "queue" "[I") args s) = true := hE.w 1404 (by decide +kernel) rfl
theorem wd_1405 {s : State} (hE : EX s) {args : Array Value} : (Cond.before (.fieldLink RX12 44 "GluedWordsModel" "depth" "[I") args s) = true := hE.w 1405 (by decide +kernel) rfl
theorem wd_1406 {s : State} (hE : EX s) {args : Array Value} : (Cond.before (.fieldLink RX12 47 "GluedWordsModel" "came" "[Z") args s) = true := hE.w 1406 (by decide +kernel) rfl
theorem wd_1407 {s : State} (hE : EX s) {args : Array Value} : (Cond.before (.fieldLink RX12 51 "GluedWordsModel" "central" "[I") args s) = true := hE.w 1407 (by decide +kernel) rfl
theorem wd_1408 {s : State} (hE : EX s) {args : Array Value} : (Cond.before (.fieldLink RX12 56 "GluedWordsModel" "home" "[[[J") args s) = true := hE.w 1408 (by decide +kernel) rfl
theorem wd_1409 {s : State} (hE : EX s) {args : Array Value} : (Cond.before (.fieldLink RX12 60 "GluedWordsModel" "lies" "[J") args s) = true := hE.w 1409 (by decide +kernel) rfl
theorem wd_1410 {s : State} (hE : EX s) {args : Array Value} : (Cond.before (.fieldLink RX12 64 "GluedWordsModel" "out" "[B") args s) = true := hE.w 1410 (by decide +kernel) rfl
theorem wd_1411 {s : State} (hE : EX s) {args : Array Value} : (Cond.before (.fieldLink RX12 368 "GluedWordsModel" "outMany" "I") args s) = true := hE.w 1411 (by decide +kernel) rfl
theorem wd_1475 {s : State} (hE : EX s) {args : Array Value} : (Cond.before (.arrayClass .boolean) args s) = true := hE.w 1475 (by decide +kernel) rfl
theorem wd_1476 {s : State} (hE : EX s) {args : Array Value} : (Cond.before (.methodLink RL 17 yX12_status) args s) = true := hE.w 1476 (by decide +kernel) rfl
theorem wd_1477 {s : State} (hE : EX s) {args : Array Value} : (Cond.before (.instanceMethod yX12_status) args s) = true := hE.w 1477 (by decide +kernel) rfl
theorem wd_1478 {s : State} (hE : EX s) {args : Array Value} : (Cond.before (.selects RX12 yX12_status yX12_status) args s) = true := hE.w 1478 (by decide +kernel) rfl
theorem wd_1479 {s : State} (hE : EX s) {args : Array Value} : (Cond.before (.code yX12_status cX12_status 1 (some .int)) args s) = true := hE.w 1479 (by decide +kernel) rfl
theorem wd_1480 {s : State} (hE : EX s) {args : Array Value} : (Cond.before (.methodLink RL 22 yX12_feed) args s) = true := hE.w 1480 (by decide +kernel) rfl
theorem wd_1481 {s : State} (hE : EX s) {args : Array Value} : (Cond.before (.instanceMethod yX12_feed) args s) = true := hE.w 1481 (by decide +kernel) rfl
theorem wd_1482 {s : State} (hE : EX s) {args : Array Value} : (Cond.before (.selects RX12 yX12_feed yX12_feed) args s) = true := hE.w 1482 (by decide +kernel) rfl
theorem wd_1483 {s : State} (hE : EX s) {args : Array Value} : (Cond.before (.code yX12_feed cX12_feed 6 (some .int)) args s) = true := hE.w 1483 (by decide +kernel) rfl
theorem wd_1484 {s : State} (hE : EX s) {args : Array Value} : (Cond.before (.methodLink RX12 138 yX12_four) args s) = true := hE.w 1484 (by decide +kernel) rfl
theorem wd_1486 {s : State} (hE : EX s) {args : Array Value} : (Cond.before (.instanceMethod yX12_four) args s) = true := hE.w 1486 (by decide +kernel) rfl
theorem wd_1487 {s : State} (hE : EX s) {args : Array Value} : (Cond.before (.code yX12_four cX12_four 3 none) args s) = true := hE.w 1487 (by decide +kernel) rfl
theorem wd_1488 {s : State} (hE : EX s) {args : Array Value} : (Cond.before (.methodLink RL 27 yX12_load) args s) = true := hE.w 1488 (by decide +kernel) rfl
theorem wd_1489 {s : State} (hE : EX s) {args : Array Value} : (Cond.before (.instanceMethod yX12_load) args s) = true := hE.w 1489 (by decide +kernel) rfl
theorem wd_1490 {s : State} (hE : EX s) {args : Array Value} : (Cond.before (.selects RX12 yX12_load yX12_load) args s) = true := hE.w 1490 (by decide +kernel) rfl
theorem wd_1491 {s : State} (hE : EX s) {args : Array Value} : (Cond.before (.code yX12_load cX12_load 3 (some .int)) args s) = true := hE.w 1491 (by decide +kernel) rfl
theorem wd_1492 {s : State} (hE : EX s) {args : Array Value} : (Cond.before (.methodLink RX12 200 yX12_isFrom) args s) = true := hE.w 1492 (by decide +kernel) rfl
theorem wd_1493 {s : State} (hE : EX s) {args : Array Value} : (Cond.before (.static yX12_isFrom) args s) = true := hE.w 1493 (by decide +kernel) rfl
theorem wd_1494 {s : State} (hE : EX s) {args : Array Value} : (Cond.before (.code yX12_isFrom cX12_isFrom 3 (some .boolean)) args s) = true := hE.w 1494 (by decide +kernel) rfl
theorem wd_1495 {s : State} (hE : EX s) {args : Array Value} : (Cond.before (.methodLink RX12 238 yX12_refuse) args s) = true := hE.w 1495 (by decide +kernel) rfl
theorem wd_1497 {s : State} (hE : EX s) {args : Array Value} : (Cond.before (.instanceMethod yX12_refuse) args s) = true := hE.w 1497 (by decide +kernel) rfl
theorem wd_1498 {s : State} (hE : EX s) {args : Array Value} : (Cond.before (.code yX12_refuse cX12_refuse 2 (some .int)) args s) = true := hE.w 1498 (by decide +kernel) rfl
theorem wd_1499 {s : State} (hE : EX s) {args : Array Value} : (Cond.before (.methodLink RX12 241 yX12_copies) args s) = true := hE.w 1499 (by decide +kernel) rfl
theorem wd_1501 {s : State} (hE : EX s) {args : Array Value} : (Cond.before (.instanceMethod yX12_copies) args s) = true := hE.w 1501 (by decide +kernel) rfl
theorem wd_1502 {s : State} (hE : EX s) {args : Array Value} : (Cond.before (.code yX12_copies cX12_copies 4 none) args s) = true := hE.w 1502 (by decide +kernel) rfl
theorem wd_1503 {s : State} (hE : EX s) {args : Array Value} : (Cond.before (.methodLink RX12 190 yX12_ahead) args s) = true := hE.w 1503 (by decide +kernel) rfl
theorem wd_1505 {s : State} (hE : EX s) {args : Array Value} : (Cond.before (.instanceMethod yX12_ahead) args s) = true := hE.w 1505 (by decide +kernel) rfl
theorem wd_1506 {s : State} (hE : EX s) {args : Array Value} : (Cond.before (.code yX12_ahead cX12_ahead 2 none) args s) = true := hE.w 1506 (by decide +kernel) rfl
theorem wd_1507 {s : State} (hE : EX s) {args : Array Value} : (Cond.before (.methodLink RX12 148 yX12_byteAt) args s) = true := hE.w 1507 (by decide +kernel) rfl
theorem wd_1509 {s : State} (hE : EX s) {args : Array Value} : (Cond.before (.instanceMethod yX12_byteAt) args s) = true := hE.w 1509 (by decide +kernel) rfl
theorem wd_1510 {s : State} (hE : EX s) {args : Array Value} : (Cond.before (.code yX12_byteAt cX12_byteAt 2 (some .int)) args s) = true := hE.w 1510 (by decide +kernel) rfl
theorem wd_1533 {s : State} (hE : EX s) {args : Array Value} : (Cond.before (.methodLink RX12 70 yX12_of) args s) = true := hE.w 1533 (by decide +kernel) rfl
theorem wd_1535 {s : State} (hE : EX s) {args : Array Value} : (Cond.before (.instanceMethod yX12_of) args s) = true := hE.w 1535 (by decide +kernel) rfl
theorem wd_1536 {s : State} (hE : EX s) {args : Array Value} : (Cond.before (.code yX12_of cX12_of 2 (some .int)) args s) = true := hE.w 1536 (by decide +kernel) rfl
theorem wd_1557 {s : State} (hE : EX s) {args : Array Value} : (Cond.before (.methodLink RX12 207 yX12_isVertex) args s) = true := hE.w 1557 (by decide +kernel) rfl
theorem wd_1559 {s : State} (hE : EX s) {args : Array Value} : (Cond.before (.instanceMethod yX12_isVertex) args s) = true := hE.w 1559 (by decide +kernel) rfl
theorem wd_1560 {s : State} (hE : EX s) {args : Array Value} : (Cond.before (.code yX12_isVertex cX12_isVertex 2 (some .boolean)) args s) = true := hE.w 1560 (by decide +kernel) rfl
theorem wd_1584 {s : State} (hE : EX s) {args : Array Value} : (Cond.before (.methodLink RX12 213 yX12_isEdge) args s) = true := hE.w 1584 (by decide +kernel) rfl
theorem wd_1586 {s : State} (hE : EX s) {args : Array Value} : (Cond.before (.instanceMethod yX12_isEdge) args s) = true := hE.w 1586 (by decide +kernel) rfl
theorem wd_1587 {s : State} (hE : EX s) {args : Array Value} : (Cond.before (.code yX12_isEdge cX12_isEdge 2 (some .boolean)) args s) = true := hE.w 1587 (by decide +kernel) rfl
theorem wd_1614 {s : State} (hE : EX s) {args : Array Value} : (Cond.before (.methodLink RX12 248 yX12_acted) args s) = true := hE.w 1614 (by decide +kernel) rfl
theorem wd_1616 {s : State} (hE : EX s) {args : Array Value} : (Cond.before (.instanceMethod yX12_acted) args s) = true := hE.w 1616 (by decide +kernel) rfl
theorem wd_1617 {s : State} (hE : EX s) {args : Array Value} : (Cond.before (.code yX12_acted cX12_acted 3 none) args s) = true := hE.w 1617 (by decide +kernel) rfl
theorem wd_1618 {s : State} (hE : EX s) {args : Array Value} : (Cond.before (.methodLink RX12 251 yX12_gives) args s) = true := hE.w 1618 (by decide +kernel) rfl
theorem wd_1620 {s : State} (hE : EX s) {args : Array Value} : (Cond.before (.instanceMethod yX12_gives) args s) = true := hE.w 1620 (by decide +kernel) rfl
theorem wd_1621 {s : State} (hE : EX s) {args : Array Value} : (Cond.before (.code yX12_gives cX12_gives 2 (some .int)) args s) = true := hE.w 1621 (by decide +kernel) rfl
theorem wd_1622 {s : State} (hE : EX s) {args : Array Value} : (Cond.before (.methodLink RL 31 yX12_fault) args s) = true := hE.w 1622 (by decide +kernel) rfl
theorem wd_1623 {s : State} (hE : EX s) {args : Array Value} : (Cond.before (.instanceMethod yX12_fault) args s) = true := hE.w 1623 (by decide +kernel) rfl
theorem wd_1624 {s : State} (hE : EX s) {args : Array Value} : (Cond.before (.selects RX12 yX12_fault yX12_fault) args s) = true := hE.w 1624 (by decide +kernel) rfl
theorem wd_1625 {s : State} (hE : EX s) {args : Array Value} : (Cond.before (.code yX12_fault cX12_fault 2 (some .int)) args s) = true := hE.w 1625 (by decide +kernel) rfl
theorem wd_1626 {s : State} (hE : EX s) {args : Array Value} : (Cond.before (.methodLink RL 35 yX12_many) args s) = true := hE.w 1626 (by decide +kernel) rfl
theorem wd_1627 {s : State} (hE : EX s) {args : Array Value} : (Cond.before (.instanceMethod yX12_many) args s) = true := hE.w 1627 (by decide +kernel) rfl
theorem wd_1628 {s : State} (hE : EX s) {args : Array Value} : (Cond.before (.selects RX12 yX12_many yX12_many) args s) = true := hE.w 1628 (by decide +kernel) rfl
theorem wd_1629 {s : State} (hE : EX s) {args : Array Value} : (Cond.before (.code yX12_many cX12_many 2 (some .int)) args s) = true := hE.w 1629 (by decide +kernel) rfl
theorem wd_1630 {s : State} (hE : EX s) {args : Array Value} : (Cond.before (.methodLink RX12 263 yX12_parts) args s) = true := hE.w 1630 (by decide +kernel) rfl
theorem wd_1632 {s : State} (hE : EX s) {args : Array Value} : (Cond.before (.instanceMethod yX12_parts) args s) = true := hE.w 1632 (by decide +kernel) rfl
theorem wd_1633 {s : State} (hE : EX s) {args : Array Value} : (Cond.before (.code yX12_parts cX12_parts 3 (some .int)) args s) = true := hE.w 1633 (by decide +kernel) rfl
theorem wd_1638 {s : State} (hE : EX s) {args : Array Value} : (Cond.before (.methodLink RL 39 yX12_order) args s) = true := hE.w 1638 (by decide +kernel) rfl
theorem wd_1639 {s : State} (hE : EX s) {args : Array Value} : (Cond.before (.instanceMethod yX12_order) args s) = true := hE.w 1639 (by decide +kernel) rfl
theorem wd_1640 {s : State} (hE : EX s) {args : Array Value} : (Cond.before (.selects RX12 yX12_order yX12_order) args s) = true := hE.w 1640 (by decide +kernel) rfl
theorem wd_1641 {s : State} (hE : EX s) {args : Array Value} : (Cond.before (.code yX12_order cX12_order 2 (some .int)) args s) = true := hE.w 1641 (by decide +kernel) rfl
theorem wd_1642 {s : State} (hE : EX s) {args : Array Value} : (Cond.before (.methodLink RL 44 yX12_edge) args s) = true := hE.w 1642 (by decide +kernel) rfl
theorem wd_1643 {s : State} (hE : EX s) {args : Array Value} : (Cond.before (.instanceMethod yX12_edge) args s) = true := hE.w 1643 (by decide +kernel) rfl
theorem wd_1644 {s : State} (hE : EX s) {args : Array Value} : (Cond.before (.selects RX12 yX12_edge yX12_edge) args s) = true := hE.w 1644 (by decide +kernel) rfl
theorem wd_1645 {s : State} (hE : EX s) {args : Array Value} : (Cond.before (.code yX12_edge cX12_edge 3 (some .int)) args s) = true := hE.w 1645 (by decide +kernel) rfl
theorem wd_1646 {s : State} (hE : EX s) {args : Array Value} : (Cond.before (.methodLink RL 48 yX12_word) args s) = true := hE.w 1646 (by decide +kernel) rfl
theorem wd_1647 {s : State} (hE : EX s) {args : Array Value} : (Cond.before (.instanceMethod yX12_word) args s) = true := hE.w 1647 (by decide +kernel) rfl
theorem wd_1648 {s : State} (hE : EX s) {args : Array Value} : (Cond.before (.selects RX12 yX12_word yX12_word) args s) = true := hE.w 1648 (by decide +kernel) rfl
theorem wd_1649 {s : State} (hE : EX s) {args : Array Value} : (Cond.before (.code yX12_word cX12_word 3 (some .int)) args s) = true := hE.w 1649 (by decide +kernel) rfl
theorem wd_1650 {s : State} (hE : EX s) {args : Array Value} : (Cond.before (.methodLink RX12 266 yX12_isWord) args s) = true := hE.w 1650 (by decide +kernel) rfl
theorem wd_1652 {s : State} (hE : EX s) {args : Array Value} : (Cond.before (.instanceMethod yX12_isWord) args s) = true := hE.w 1652 (by decide +kernel) rfl
theorem wd_1653 {s : State} (hE : EX s) {args : Array Value} : (Cond.before (.code yX12_isWord cX12_isWord 2 (some .boolean)) args s) = true := hE.w 1653 (by decide +kernel) rfl
theorem wd_1676 {s : State} (hE : EX s) {args : Array Value} : (Cond.before (.methodLink RL 52 yX12_number_) args s) = true := hE.w 1676 (by decide +kernel) rfl
theorem wd_1677 {s : State} (hE : EX s) {args : Array Value} : (Cond.before (.instanceMethod yX12_number_) args s) = true := hE.w 1677 (by decide +kernel) rfl
theorem wd_1678 {s : State} (hE : EX s) {args : Array Value} : (Cond.before (.selects RX12 yX12_number_ yX12_number_) args s) = true := hE.w 1678 (by decide +kernel) rfl
theorem wd_1679 {s : State} (hE : EX s) {args : Array Value} : (Cond.before (.code yX12_number_ cX12_number_ 3 (some .int)) args s) = true := hE.w 1679 (by decide +kernel) rfl
theorem wd_1680 {s : State} (hE : EX s) {args : Array Value} : (Cond.before (.methodLink RL 56 yX12_step_) args s) = true := hE.w 1680 (by decide +kernel) rfl
theorem wd_1681 {s : State} (hE : EX s) {args : Array Value} : (Cond.before (.instanceMethod yX12_step_) args s) = true := hE.w 1681 (by decide +kernel) rfl
theorem wd_1682 {s : State} (hE : EX s) {args : Array Value} : (Cond.before (.selects RX12 yX12_step_ yX12_step_) args s) = true := hE.w 1682 (by decide +kernel) rfl
theorem wd_1683 {s : State} (hE : EX s) {args : Array Value} : (Cond.before (.code yX12_step_ cX12_step_ 3 (some .int)) args s) = true := hE.w 1683 (by decide +kernel) rfl
theorem wd_1684 {s : State} (hE : EX s) {args : Array Value} : (Cond.before (.methodLink RL 60 yX12_take) args s) = true := hE.w 1684 (by decide +kernel) rfl
theorem wd_1685 {s : State} (hE : EX s) {args : Array Value} : (Cond.before (.instanceMethod yX12_take) args s) = true := hE.w 1685 (by decide +kernel) rfl
theorem wd_1686 {s : State} (hE : EX s) {args : Array Value} : (Cond.before (.selects RX12 yX12_take yX12_take) args s) = true := hE.w 1686 (by decide +kernel) rfl
theorem wd_1687 {s : State} (hE : EX s) {args : Array Value} : (Cond.before (.code yX12_take cX12_take 3 (some .int)) args s) = true := hE.w 1687 (by decide +kernel) rfl
theorem wd_1692 {s : State} (hE : EX s) {args : Array Value} : (Cond.before (.methodLink RL 64 yX12_form) args s) = true := hE.w 1692 (by decide +kernel) rfl
theorem wd_1693 {s : State} (hE : EX s) {args : Array Value} : (Cond.before (.instanceMethod yX12_form) args s) = true := hE.w 1693 (by decide +kernel) rfl
theorem wd_1694 {s : State} (hE : EX s) {args : Array Value} : (Cond.before (.selects RX12 yX12_form yX12_form) args s) = true := hE.w 1694 (by decide +kernel) rfl
theorem wd_1695 {s : State} (hE : EX s) {args : Array Value} : (Cond.before (.code yX12_form cX12_form 3 (some .int)) args s) = true := hE.w 1695 (by decide +kernel) rfl
theorem wd_1696 {s : State} (hE : EX s) {args : Array Value} : (Cond.before (.methodLink RL 68 yX12_times) args s) = true := hE.w 1696 (by decide +kernel) rfl
theorem wd_1697 {s : State} (hE : EX s) {args : Array Value} : (Cond.before (.instanceMethod yX12_times) args s) = true := hE.w 1697 (by decide +kernel) rfl
theorem wd_1698 {s : State} (hE : EX s) {args : Array Value} : (Cond.before (.selects RX12 yX12_times yX12_times) args s) = true := hE.w 1698 (by decide +kernel) rfl
theorem wd_1699 {s : State} (hE : EX s) {args : Array Value} : (Cond.before (.code yX12_times cX12_times 3 (some .int)) args s) = true := hE.w 1699 (by decide +kernel) rfl
theorem wd_1710 {s : State} (hE : EX s) {args : Array Value} : (Cond.before (.methodLink RL 72 yX12_turned) args s) = true := hE.w 1710 (by decide +kernel) rfl
theorem wd_1711 {s : State} (hE : EX s) {args : Array Value} : (Cond.before (.instanceMethod yX12_turned) args s) = true := hE.w 1711 (by decide +kernel) rfl
theorem wd_1712 {s : State} (hE : EX s) {args : Array Value} : (Cond.before (.selects RX12 yX12_turned yX12_turned) args s) = true := hE.w 1712 (by decide +kernel) rfl
theorem wd_1713 {s : State} (hE : EX s) {args : Array Value} : (Cond.before (.code yX12_turned cX12_turned 2 (some .int)) args s) = true := hE.w 1713 (by decide +kernel) rfl
theorem wd_1718 {s : State} (hE : EX s) {args : Array Value} : (Cond.before (.methodLink RL 76 yX12_power) args s) = true := hE.w 1718 (by decide +kernel) rfl
theorem wd_1719 {s : State} (hE : EX s) {args : Array Value} : (Cond.before (.instanceMethod yX12_power) args s) = true := hE.w 1719 (by decide +kernel) rfl
theorem wd_1720 {s : State} (hE : EX s) {args : Array Value} : (Cond.before (.selects RX12 yX12_power yX12_power) args s) = true := hE.w 1720 (by decide +kernel) rfl
theorem wd_1721 {s : State} (hE : EX s) {args : Array Value} : (Cond.before (.code yX12_power cX12_power 4 (some .int)) args s) = true := hE.w 1721 (by decide +kernel) rfl
theorem wd_1726 {s : State} (hE : EX s) {args : Array Value} : (Cond.before (.methodLink RL 80 yX12_core) args s) = true := hE.w 1726 (by decide +kernel) rfl
theorem wd_1727 {s : State} (hE : EX s) {args : Array Value} : (Cond.before (.instanceMethod yX12_core) args s) = true := hE.w 1727 (by decide +kernel) rfl
theorem wd_1728 {s : State} (hE : EX s) {args : Array Value} : (Cond.before (.selects RX12 yX12_core yX12_core) args s) = true := hE.w 1728 (by decide +kernel) rfl
theorem wd_1729 {s : State} (hE : EX s) {args : Array Value} : (Cond.before (.code yX12_core cX12_core 2 (some .int)) args s) = true := hE.w 1729 (by decide +kernel) rfl
theorem wd_1738 {s : State} (hE : EX s) {args : Array Value} : (Cond.before (.methodLink RL 89 yX12_drop) args s) = true := hE.w 1738 (by decide +kernel) rfl
theorem wd_1739 {s : State} (hE : EX s) {args : Array Value} : (Cond.before (.instanceMethod yX12_drop) args s) = true := hE.w 1739 (by decide +kernel) rfl
theorem wd_1740 {s : State} (hE : EX s) {args : Array Value} : (Cond.before (.selects RX12 yX12_drop yX12_drop) args s) = true := hE.w 1740 (by decide +kernel) rfl
theorem wd_1741 {s : State} (hE : EX s) {args : Array Value} : (Cond.before (.code yX12_drop cX12_drop 3 (some .int)) args s) = true := hE.w 1741 (by decide +kernel) rfl
theorem wd_1742 {s : State} (hE : EX s) {args : Array Value} : (Cond.before (.methodLink RL 93 yX12_undo) args s) = true := hE.w 1742 (by decide +kernel) rfl
theorem wd_1743 {s : State} (hE : EX s) {args : Array Value} : (Cond.before (.instanceMethod yX12_undo) args s) = true := hE.w 1743 (by decide +kernel) rfl
theorem wd_1744 {s : State} (hE : EX s) {args : Array Value} : (Cond.before (.selects RX12 yX12_undo yX12_undo) args s) = true := hE.w 1744 (by decide +kernel) rfl
theorem wd_1745 {s : State} (hE : EX s) {args : Array Value} : (Cond.before (.code yX12_undo cX12_undo 1 (some .int)) args s) = true := hE.w 1745 (by decide +kernel) rfl
theorem wd_1746 {s : State} (hE : EX s) {args : Array Value} : (Cond.before (.methodLink RL 97 yX12_mark) args s) = true := hE.w 1746 (by decide +kernel) rfl
theorem wd_1747 {s : State} (hE : EX s) {args : Array Value} : (Cond.before (.instanceMethod yX12_mark) args s) = true := hE.w 1747 (by decide +kernel) rfl
theorem wd_1748 {s : State} (hE : EX s) {args : Array Value} : (Cond.before (.selects RX12 yX12_mark yX12_mark) args s) = true := hE.w 1748 (by decide +kernel) rfl
theorem wd_1749 {s : State} (hE : EX s) {args : Array Value} : (Cond.before (.code yX12_mark cX12_mark 1 (some .int)) args s) = true := hE.w 1749 (by decide +kernel) rfl
theorem wd_1750 {s : State} (hE : EX s) {args : Array Value} : (Cond.before (.methodLink RL 101 yX12_back) args s) = true := hE.w 1750 (by decide +kernel) rfl
theorem wd_1751 {s : State} (hE : EX s) {args : Array Value} : (Cond.before (.instanceMethod yX12_back) args s) = true := hE.w 1751 (by decide +kernel) rfl
theorem wd_1752 {s : State} (hE : EX s) {args : Array Value} : (Cond.before (.selects RX12 yX12_back yX12_back) args s) = true := hE.w 1752 (by decide +kernel) rfl
theorem wd_1753 {s : State} (hE : EX s) {args : Array Value} : (Cond.before (.code yX12_back cX12_back 1 (some .int)) args s) = true := hE.w 1753 (by decide +kernel) rfl
theorem wd_1754 {s : State} (hE : EX s) {args : Array Value} : (Cond.before (.methodLink RL 105 yX12_alike) args s) = true := hE.w 1754 (by decide +kernel) rfl
theorem wd_1755 {s : State} (hE : EX s) {args : Array Value} : (Cond.before (.instanceMethod yX12_alike) args s) = true := hE.w 1755 (by decide +kernel) rfl
theorem wd_1756 {s : State} (hE : EX s) {args : Array Value} : (Cond.before (.selects RX12 yX12_alike yX12_alike) args s) = true := hE.w 1756 (by decide +kernel) rfl
theorem wd_1757 {s : State} (hE : EX s) {args : Array Value} : (Cond.before (.code yX12_alike cX12_alike 3 (some .int)) args s) = true := hE.w 1757 (by decide +kernel) rfl
theorem wd_1762 {s : State} (hE : EX s) {args : Array Value} : (Cond.before (.methodLink RL 157 yX12_alikes) args s) = true := hE.w 1762 (by decide +kernel) rfl
theorem wd_1763 {s : State} (hE : EX s) {args : Array Value} : (Cond.before (.instanceMethod yX12_alikes) args s) = true := hE.w 1763 (by decide +kernel) rfl
theorem wd_1764 {s : State} (hE : EX s) {args : Array Value} : (Cond.before (.selects RX12 yX12_alikes yX12_alikes) args s) = true := hE.w 1764 (by decide +kernel) rfl
theorem wd_1765 {s : State} (hE : EX s) {args : Array Value} : (Cond.before (.code yX12_alikes cX12_alikes 4 (some .int)) args s) = true := hE.w 1765 (by decide +kernel) rfl
theorem wd_1766 {s : State} (hE : EX s) {args : Array Value} : (Cond.before (.methodLink RL 161 yX12_twin) args s) = true := hE.w 1766 (by decide +kernel) rfl
theorem wd_1767 {s : State} (hE : EX s) {args : Array Value} : (Cond.before (.instanceMethod yX12_twin) args s) = true := hE.w 1767 (by decide +kernel) rfl
theorem wd_1768 {s : State} (hE : EX s) {args : Array Value} : (Cond.before (.selects RX12 yX12_twin yX12_twin) args s) = true := hE.w 1768 (by decide +kernel) rfl
theorem wd_1769 {s : State} (hE : EX s) {args : Array Value} : (Cond.before (.code yX12_twin cX12_twin 3 (some .int)) args s) = true := hE.w 1769 (by decide +kernel) rfl
theorem wd_1770 {s : State} (hE : EX s) {args : Array Value} : (Cond.before (.methodLink RL 109 yX12_steps) args s) = true := hE.w 1770 (by decide +kernel) rfl
theorem wd_1771 {s : State} (hE : EX s) {args : Array Value} : (Cond.before (.instanceMethod yX12_steps) args s) = true := hE.w 1771 (by decide +kernel) rfl
theorem wd_1772 {s : State} (hE : EX s) {args : Array Value} : (Cond.before (.selects RX12 yX12_steps yX12_steps) args s) = true := hE.w 1772 (by decide +kernel) rfl
theorem wd_1773 {s : State} (hE : EX s) {args : Array Value} : (Cond.before (.code yX12_steps cX12_steps 2 (some .int)) args s) = true := hE.w 1773 (by decide +kernel) rfl
theorem wd_1774 {s : State} (hE : EX s) {args : Array Value} : (Cond.before (.methodLink RL 113 yX12_length) args s) = true := hE.w 1774 (by decide +kernel) rfl
theorem wd_1775 {s : State} (hE : EX s) {args : Array Value} : (Cond.before (.instanceMethod yX12_length) args s) = true := hE.w 1775 (by decide +kernel) rfl
theorem wd_1776 {s : State} (hE : EX s) {args : Array Value} : (Cond.before (.selects RX12 yX12_length yX12_length) args s) = true := hE.w 1776 (by decide +kernel) rfl
theorem wd_1777 {s : State} (hE : EX s) {args : Array Value} : (Cond.before (.code yX12_length cX12_length 3 (some .int)) args s) = true := hE.w 1777 (by decide +kernel) rfl
theorem wd_1778 {s : State} (hE : EX s) {args : Array Value} : (Cond.before (.methodLink RX12 293 yX12_wrongLoop) args s) = true := hE.w 1778 (by decide +kernel) rfl
theorem wd_1780 {s : State} (hE : EX s) {args : Array Value} : (Cond.before (.instanceMethod yX12_wrongLoop) args s) = true := hE.w 1780 (by decide +kernel) rfl
theorem wd_1781 {s : State} (hE : EX s) {args : Array Value} : (Cond.before (.code yX12_wrongLoop cX12_wrongLoop 2 (some .int)) args s) = true := hE.w 1781 (by decide +kernel) rfl
theorem wd_1782 {s : State} (hE : EX s) {args : Array Value} : (Cond.before (.methodLink RL 117 yX12_orderOf) args s) = true := hE.w 1782 (by decide +kernel) rfl
theorem wd_1783 {s : State} (hE : EX s) {args : Array Value} : (Cond.before (.instanceMethod yX12_orderOf) args s) = true := hE.w 1783 (by decide +kernel) rfl
theorem wd_1784 {s : State} (hE : EX s) {args : Array Value} : (Cond.before (.selects RX12 yX12_orderOf yX12_orderOf) args s) = true := hE.w 1784 (by decide +kernel) rfl
theorem wd_1785 {s : State} (hE : EX s) {args : Array Value} : (Cond.before (.code yX12_orderOf cX12_orderOf 3 (some .int)) args s) = true := hE.w 1785 (by decide +kernel) rfl
theorem wd_1793 {s : State} (hE : EX s) {args : Array Value} : (Cond.before (.methodLink RL 121 yX12_kin) args s) = true := hE.w 1793 (by decide +kernel) rfl
theorem wd_1794 {s : State} (hE : EX s) {args : Array Value} : (Cond.before (.instanceMethod yX12_kin) args s) = true := hE.w 1794 (by decide +kernel) rfl
theorem wd_1795 {s : State} (hE : EX s) {args : Array Value} : (Cond.before (.selects RX12 yX12_kin yX12_kin) args s) = true := hE.w 1795 (by decide +kernel) rfl
theorem wd_1796 {s : State} (hE : EX s) {args : Array Value} : (Cond.before (.code yX12_kin cX12_kin 4 (some .int)) args s) = true := hE.w 1796 (by decide +kernel) rfl
theorem wd_1797 {s : State} (hE : EX s) {args : Array Value} : (Cond.before (.methodLink RX12 316 yX12_wrongLoops) args s) = true := hE.w 1797 (by decide +kernel) rfl
theorem wd_1799 {s : State} (hE : EX s) {args : Array Value} : (Cond.before (.instanceMethod yX12_wrongLoops) args s) = true := hE.w 1799 (by decide +kernel) rfl
theorem wd_1800 {s : State} (hE : EX s) {args : Array Value} : (Cond.before (.code yX12_wrongLoops cX12_wrongLoops 4 (some .int)) args s) = true := hE.w 1800 (by decide +kernel) rfl
theorem wd_1813 {s : State} (hE : EX s) {args : Array Value} : (Cond.before (.methodLink RL 125 yX12_kinBy) args s) = true := hE.w 1813 (by decide +kernel) rfl
theorem wd_1814 {s : State} (hE : EX s) {args : Array Value} : (Cond.before (.instanceMethod yX12_kinBy) args s) = true := hE.w 1814 (by decide +kernel) rfl
theorem wd_1815 {s : State} (hE : EX s) {args : Array Value} : (Cond.before (.selects RX12 yX12_kinBy yX12_kinBy) args s) = true := hE.w 1815 (by decide +kernel) rfl
theorem wd_1816 {s : State} (hE : EX s) {args : Array Value} : (Cond.before (.code yX12_kinBy cX12_kinBy 5 (some .int)) args s) = true := hE.w 1816 (by decide +kernel) rfl
theorem wd_1817 {s : State} (hE : EX s) {args : Array Value} : (Cond.before (.methodLink RL 129 yX12_kins) args s) = true := hE.w 1817 (by decide +kernel) rfl
theorem wd_1818 {s : State} (hE : EX s) {args : Array Value} : (Cond.before (.instanceMethod yX12_kins) args s) = true := hE.w 1818 (by decide +kernel) rfl
theorem wd_1819 {s : State} (hE : EX s) {args : Array Value} : (Cond.before (.selects RX12 yX12_kins yX12_kins) args s) = true := hE.w 1819 (by decide +kernel) rfl
theorem wd_1820 {s : State} (hE : EX s) {args : Array Value} : (Cond.before (.code yX12_kins cX12_kins 5 (some .int)) args s) = true := hE.w 1820 (by decide +kernel) rfl
theorem wd_1821 {s : State} (hE : EX s) {args : Array Value} : (Cond.before (.methodLink RL 133 yX12_net) args s) = true := hE.w 1821 (by decide +kernel) rfl
theorem wd_1822 {s : State} (hE : EX s) {args : Array Value} : (Cond.before (.instanceMethod yX12_net) args s) = true := hE.w 1822 (by decide +kernel) rfl
theorem wd_1823 {s : State} (hE : EX s) {args : Array Value} : (Cond.before (.selects RX12 yX12_net yX12_net) args s) = true := hE.w 1823 (by decide +kernel) rfl
theorem wd_1824 {s : State} (hE : EX s) {args : Array Value} : (Cond.before (.code yX12_net cX12_net 5 (some .int)) args s) = true := hE.w 1824 (by decide +kernel) rfl
theorem wd_1825 {s : State} (hE : EX s) {args : Array Value} : (Cond.before (.methodLink RL 137 yX12_central) args s) = true := hE.w 1825 (by decide +kernel) rfl
theorem wd_1826 {s : State} (hE : EX s) {args : Array Value} : (Cond.before (.instanceMethod yX12_central) args s) = true := hE.w 1826 (by decide +kernel) rfl
theorem wd_1827 {s : State} (hE : EX s) {args : Array Value} : (Cond.before (.selects RX12 yX12_central yX12_central) args s) = true := hE.w 1827 (by decide +kernel) rfl
theorem wd_1828 {s : State} (hE : EX s) {args : Array Value} : (Cond.before (.code yX12_central cX12_central 3 (some .int)) args s) = true := hE.w 1828 (by decide +kernel) rfl
theorem wd_1833 {s : State} (hE : EX s) {args : Array Value} : (Cond.before (.methodLink RL 141 yX12_centre) args s) = true := hE.w 1833 (by decide +kernel) rfl
theorem wd_1834 {s : State} (hE : EX s) {args : Array Value} : (Cond.before (.instanceMethod yX12_centre) args s) = true := hE.w 1834 (by decide +kernel) rfl
theorem wd_1835 {s : State} (hE : EX s) {args : Array Value} : (Cond.before (.selects RX12 yX12_centre yX12_centre) args s) = true := hE.w 1835 (by decide +kernel) rfl
theorem wd_1836 {s : State} (hE : EX s) {args : Array Value} : (Cond.before (.code yX12_centre cX12_centre 4 (some .int)) args s) = true := hE.w 1836 (by decide +kernel) rfl
theorem wd_1837 {s : State} (hE : EX s) {args : Array Value} : (Cond.before (.methodLink RL 145 yX12_having) args s) = true := hE.w 1837 (by decide +kernel) rfl
theorem wd_1838 {s : State} (hE : EX s) {args : Array Value} : (Cond.before (.instanceMethod yX12_having) args s) = true := hE.w 1838 (by decide +kernel) rfl
theorem wd_1839 {s : State} (hE : EX s) {args : Array Value} : (Cond.before (.selects RX12 yX12_having yX12_having) args s) = true := hE.w 1839 (by decide +kernel) rfl
theorem wd_1840 {s : State} (hE : EX s) {args : Array Value} : (Cond.before (.code yX12_having cX12_having 5 (some .int)) args s) = true := hE.w 1840 (by decide +kernel) rfl
theorem wd_1841 {s : State} (hE : EX s) {args : Array Value} : (Cond.before (.methodLink RL 149 yX12_root) args s) = true := hE.w 1841 (by decide +kernel) rfl
theorem wd_1842 {s : State} (hE : EX s) {args : Array Value} : (Cond.before (.instanceMethod yX12_root) args s) = true := hE.w 1842 (by decide +kernel) rfl
theorem wd_1843 {s : State} (hE : EX s) {args : Array Value} : (Cond.before (.selects RX12 yX12_root yX12_root) args s) = true := hE.w 1843 (by decide +kernel) rfl
theorem wd_1844 {s : State} (hE : EX s) {args : Array Value} : (Cond.before (.code yX12_root cX12_root 3 (some .int)) args s) = true := hE.w 1844 (by decide +kernel) rfl
theorem wd_1853 {s : State} (hE : EX s) {args : Array Value} : (Cond.before (.methodLink RL 153 yX12_swaps) args s) = true := hE.w 1853 (by decide +kernel) rfl
theorem wd_1854 {s : State} (hE : EX s) {args : Array Value} : (Cond.before (.instanceMethod yX12_swaps) args s) = true := hE.w 1854 (by decide +kernel) rfl
theorem wd_1855 {s : State} (hE : EX s) {args : Array Value} : (Cond.before (.selects RX12 yX12_swaps yX12_swaps) args s) = true := hE.w 1855 (by decide +kernel) rfl
theorem wd_1856 {s : State} (hE : EX s) {args : Array Value} : (Cond.before (.code yX12_swaps cX12_swaps 4 (some .int)) args s) = true := hE.w 1856 (by decide +kernel) rfl
theorem wd_1857 {s : State} (hE : EX s) {args : Array Value} : (Cond.before (.methodLink RL 165 yX12_apart) args s) = true := hE.w 1857 (by decide +kernel) rfl
theorem wd_1858 {s : State} (hE : EX s) {args : Array Value} : (Cond.before (.instanceMethod yX12_apart) args s) = true := hE.w 1858 (by decide +kernel) rfl
theorem wd_1859 {s : State} (hE : EX s) {args : Array Value} : (Cond.before (.selects RX12 yX12_apart yX12_apart) args s) = true := hE.w 1859 (by decide +kernel) rfl
theorem wd_1860 {s : State} (hE : EX s) {args : Array Value} : (Cond.before (.code yX12_apart cX12_apart 4 (some .int)) args s) = true := hE.w 1860 (by decide +kernel) rfl
theorem wd_1861 {s : State} (hE : EX s) {args : Array Value} : (Cond.before (.methodLink RX12 332 yX12_wrongPair) args s) = true := hE.w 1861 (by decide +kernel) rfl
theorem wd_1863 {s : State} (hE : EX s) {args : Array Value} : (Cond.before (.instanceMethod yX12_wrongPair) args s) = true := hE.w 1863 (by decide +kernel) rfl
theorem wd_1864 {s : State} (hE : EX s) {args : Array Value} : (Cond.before (.code yX12_wrongPair cX12_wrongPair 3 (some .int)) args s) = true := hE.w 1864 (by decide +kernel) rfl
theorem wd_1869 {s : State} (hE : EX s) {args : Array Value} : (Cond.before (.methodLink RL 169 yX12_moves) args s) = true := hE.w 1869 (by decide +kernel) rfl
theorem wd_1870 {s : State} (hE : EX s) {args : Array Value} : (Cond.before (.instanceMethod yX12_moves) args s) = true := hE.w 1870 (by decide +kernel) rfl
theorem wd_1871 {s : State} (hE : EX s) {args : Array Value} : (Cond.before (.selects RX12 yX12_moves yX12_moves) args s) = true := hE.w 1871 (by decide +kernel) rfl
theorem wd_1872 {s : State} (hE : EX s) {args : Array Value} : (Cond.before (.code yX12_moves cX12_moves 4 (some .int)) args s) = true := hE.w 1872 (by decide +kernel) rfl
theorem wd_1873 {s : State} (hE : EX s) {args : Array Value} : (Cond.before (.methodLink RL 173 yX12_way) args s) = true := hE.w 1873 (by decide +kernel) rfl
theorem wd_1874 {s : State} (hE : EX s) {args : Array Value} : (Cond.before (.instanceMethod yX12_way) args s) = true := hE.w 1874 (by decide +kernel) rfl
theorem wd_1875 {s : State} (hE : EX s) {args : Array Value} : (Cond.before (.selects RX12 yX12_way yX12_way) args s) = true := hE.w 1875 (by decide +kernel) rfl
theorem wd_1876 {s : State} (hE : EX s) {args : Array Value} : (Cond.before (.code yX12_way cX12_way 5 (some .int)) args s) = true := hE.w 1876 (by decide +kernel) rfl
theorem wd_1877 {s : State} (hE : EX s) {args : Array Value} : (Cond.before (.methodLink RL 199 yX12_near) args s) = true := hE.w 1877 (by decide +kernel) rfl
theorem wd_1878 {s : State} (hE : EX s) {args : Array Value} : (Cond.before (.instanceMethod yX12_near) args s) = true := hE.w 1878 (by decide +kernel) rfl
theorem wd_1879 {s : State} (hE : EX s) {args : Array Value} : (Cond.before (.selects RX12 yX12_near yX12_near) args s) = true := hE.w 1879 (by decide +kernel) rfl
theorem wd_1880 {s : State} (hE : EX s) {args : Array Value} : (Cond.before (.code yX12_near cX12_near 5 (some .int)) args s) = true := hE.w 1880 (by decide +kernel) rfl
theorem wd_1881 {s : State} (hE : EX s) {args : Array Value} : (Cond.before (.methodLink RL 178 yX12_holds) args s) = true := hE.w 1881 (by decide +kernel) rfl
theorem wd_1882 {s : State} (hE : EX s) {args : Array Value} : (Cond.before (.instanceMethod yX12_holds) args s) = true := hE.w 1882 (by decide +kernel) rfl
theorem wd_1883 {s : State} (hE : EX s) {args : Array Value} : (Cond.before (.selects RX12 yX12_holds yX12_holds) args s) = true := hE.w 1883 (by decide +kernel) rfl
theorem wd_1884 {s : State} (hE : EX s) {args : Array Value} : (Cond.before (.code yX12_holds cX12_holds 4 (some .long)) args s) = true := hE.w 1884 (by decide +kernel) rfl
theorem wd_1906 {s : State} (hE : EX s) {args : Array Value} : (Cond.before (.methodLink RL 186 yX12_ball) args s) = true := hE.w 1906 (by decide +kernel) rfl
theorem wd_1907 {s : State} (hE : EX s) {args : Array Value} : (Cond.before (.instanceMethod yX12_ball) args s) = true := hE.w 1907 (by decide +kernel) rfl
theorem wd_1908 {s : State} (hE : EX s) {args : Array Value} : (Cond.before (.selects RX12 yX12_ball yX12_ball) args s) = true := hE.w 1908 (by decide +kernel) rfl
theorem wd_1909 {s : State} (hE : EX s) {args : Array Value} : (Cond.before (.code yX12_ball cX12_ball 3 (some .long)) args s) = true := hE.w 1909 (by decide +kernel) rfl
theorem wd_1910 {s : State} (hE : EX s) {args : Array Value} : (Cond.before (.methodLink RL 190 yX12_sphere) args s) = true := hE.w 1910 (by decide +kernel) rfl
theorem wd_1911 {s : State} (hE : EX s) {args : Array Value} : (Cond.before (.instanceMethod yX12_sphere) args s) = true := hE.w 1911 (by decide +kernel) rfl
theorem wd_1912 {s : State} (hE : EX s) {args : Array Value} : (Cond.before (.selects RX12 yX12_sphere yX12_sphere) args s) = true := hE.w 1912 (by decide +kernel) rfl
theorem wd_1913 {s : State} (hE : EX s) {args : Array Value} : (Cond.before (.code yX12_sphere cX12_sphere 3 (some .long)) args s) = true := hE.w 1913 (by decide +kernel) rfl
theorem wd_1922 {s : State} (hE : EX s) {args : Array Value} : (Cond.before (.methodLink RL 85 yX12_spell) args s) = true := hE.w 1922 (by decide +kernel) rfl
theorem wd_1923 {s : State} (hE : EX s) {args : Array Value} : (Cond.before (.instanceMethod yX12_spell) args s) = true := hE.w 1923 (by decide +kernel) rfl
theorem wd_1924 {s : State} (hE : EX s) {args : Array Value} : (Cond.before (.selects RX12 yX12_spell yX12_spell) args s) = true := hE.w 1924 (by decide +kernel) rfl
theorem wd_1925 {s : State} (hE : EX s) {args : Array Value} : (Cond.before (.code yX12_spell cX12_spell 12 (some .int)) args s) = true := hE.w 1925 (by decide +kernel) rfl
theorem wd_1929 {s : State} (hE : EX s) {args : Array Value} : (Cond.before (.methodLink RL 195 yX12_listed) args s) = true := hE.w 1929 (by decide +kernel) rfl
theorem wd_1930 {s : State} (hE : EX s) {args : Array Value} : (Cond.before (.instanceMethod yX12_listed) args s) = true := hE.w 1930 (by decide +kernel) rfl
theorem wd_1931 {s : State} (hE : EX s) {args : Array Value} : (Cond.before (.selects RX12 yX12_listed yX12_listed) args s) = true := hE.w 1931 (by decide +kernel) rfl
theorem wd_1932 {s : State} (hE : EX s) {args : Array Value} : (Cond.before (.code yX12_listed cX12_listed 12 (some .long)) args s) = true := hE.w 1932 (by decide +kernel) rfl
theorem wd_1933 {s : State} (hE : EX s) {args : Array Value} : (Cond.before (.methodLink RL 182 yX12_axis) args s) = true := hE.w 1933 (by decide +kernel) rfl
theorem wd_1934 {s : State} (hE : EX s) {args : Array Value} : (Cond.before (.instanceMethod yX12_axis) args s) = true := hE.w 1934 (by decide +kernel) rfl
theorem wd_1935 {s : State} (hE : EX s) {args : Array Value} : (Cond.before (.selects RX12 yX12_axis yX12_axis) args s) = true := hE.w 1935 (by decide +kernel) rfl
theorem wd_1936 {s : State} (hE : EX s) {args : Array Value} : (Cond.before (.code yX12_axis cX12_axis 4 (some .int)) args s) = true := hE.w 1936 (by decide +kernel) rfl
theorem wd_1937 {s : State} (hE : EX s) {args : Array Value} : (Cond.before (.methodLink RL 203 yX12_meet) args s) = true := hE.w 1937 (by decide +kernel) rfl
theorem wd_1938 {s : State} (hE : EX s) {args : Array Value} : (Cond.before (.instanceMethod yX12_meet) args s) = true := hE.w 1938 (by decide +kernel) rfl
theorem wd_1939 {s : State} (hE : EX s) {args : Array Value} : (Cond.before (.selects RX12 yX12_meet yX12_meet) args s) = true := hE.w 1939 (by decide +kernel) rfl
theorem wd_1940 {s : State} (hE : EX s) {args : Array Value} : (Cond.before (.code yX12_meet cX12_meet 4 (some .int)) args s) = true := hE.w 1940 (by decide +kernel) rfl
theorem wd_1941 {s : State} (hE : EX s) {args : Array Value} : (Cond.before (.methodLink RL 207 yX12_tell) args s) = true := hE.w 1941 (by decide +kernel) rfl
theorem wd_1942 {s : State} (hE : EX s) {args : Array Value} : (Cond.before (.instanceMethod yX12_tell) args s) = true := hE.w 1942 (by decide +kernel) rfl
theorem wd_1943 {s : State} (hE : EX s) {args : Array Value} : (Cond.before (.selects RX12 yX12_tell yX12_tell) args s) = true := hE.w 1943 (by decide +kernel) rfl
theorem wd_1944 {s : State} (hE : EX s) {args : Array Value} : (Cond.before (.code yX12_tell cX12_tell 3 (some .int)) args s) = true := hE.w 1944 (by decide +kernel) rfl
theorem wd_1953 {s : State} (hE : EX s) {args : Array Value} : (Cond.before (.methodLink RL 211 yX12_out) args s) = true := hE.w 1953 (by decide +kernel) rfl
theorem wd_1954 {s : State} (hE : EX s) {args : Array Value} : (Cond.before (.instanceMethod yX12_out) args s) = true := hE.w 1954 (by decide +kernel) rfl
theorem wd_1955 {s : State} (hE : EX s) {args : Array Value} : (Cond.before (.selects RX12 yX12_out yX12_out) args s) = true := hE.w 1955 (by decide +kernel) rfl
theorem wd_1956 {s : State} (hE : EX s) {args : Array Value} : (Cond.before (.code yX12_out cX12_out 2 (some .int)) args s) = true := hE.w 1956 (by decide +kernel) rfl
theorem wd_1957 {s : State} (hE : EX s) {args : Array Value} : (Cond.before (.methodLink RL 215 yX12_chi) args s) = true := hE.w 1957 (by decide +kernel) rfl
theorem wd_1958 {s : State} (hE : EX s) {args : Array Value} : (Cond.before (.instanceMethod yX12_chi) args s) = true := hE.w 1958 (by decide +kernel) rfl
theorem wd_1959 {s : State} (hE : EX s) {args : Array Value} : (Cond.before (.selects RX12 yX12_chi yX12_chi) args s) = true := hE.w 1959 (by decide +kernel) rfl
theorem wd_1960 {s : State} (hE : EX s) {args : Array Value} : (Cond.before (.code yX12_chi cX12_chi 12 (some .int)) args s) = true := hE.w 1960 (by decide +kernel) rfl
