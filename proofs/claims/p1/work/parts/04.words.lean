theorem ly_X7 {s : State} (hE : EX s) {args : Array Value} : ∀ w ∈ wsX70, w.before args s = true := hE.lay [150] (by decide +kernel) (by decide +kernel)
theorem ly_X11 {s : State} (hE : EX s) {args : Array Value} : ∀ w ∈ wsX110, w.before args s = true := hE.lay [378, 380, 382, 384, 386, 388, 390, 392, 394, 396, 398, 400, 402, 404, 406, 408, 410, 412, 414] (by decide +kernel) (by decide +kernel)
theorem ly_X3 {s : State} (hE : EX s) {args : Array Value} : ∀ w ∈ wsX30, w.before args s = true := hE.lay [166, 168, 170] (by decide +kernel) (by decide +kernel)
theorem ly_X5 {s : State} (hE : EX s) {args : Array Value} : ∀ w ∈ wsX50, w.before args s = true := hE.lay [237, 239, 241, 243, 245, 247, 249, 251, 253, 255] (by decide +kernel) (by decide +kernel)
theorem ly_X9 {s : State} (hE : EX s) {args : Array Value} : ∀ w ∈ wsX90, w.before args s = true := hE.lay [192, 194, 196, 198, 200, 202] (by decide +kernel) (by decide +kernel)
theorem ly_X10 {s : State} (hE : EX s) {args : Array Value} : ∀ w ∈ wsX100, w.before args s = true := hE.lay [218, 220, 222, 224] (by decide +kernel) (by decide +kernel)
theorem ly_X8 {s : State} (hE : EX s) {args : Array Value} : ∀ w ∈ wsX80, w.before args s = true := hE.lay [266, 268] (by decide +kernel) (by decide +kernel)
theorem ly_X4 {s : State} (hE : EX s) {args : Array Value} : ∀ w ∈ wsX40, w.before args s = true := hE.lay [313, 315, 317, 319, 321, 323, 325, 327] (by decide +kernel) (by decide +kernel)
theorem ly_X0 {s : State} (hE : EX s) {args : Array Value} : ∀ w ∈ wsX00, w.before args s = true := hE.lay [294, 296, 298, 300, 302] (by decide +kernel) (by decide +kernel)
theorem ly_X6 {s : State} (hE : EX s) {args : Array Value} : ∀ w ∈ wsX60, w.before args s = true := hE.lay [341, 343, 345] (by decide +kernel) (by decide +kernel)
theorem ly_X1 {s : State} (hE : EX s) {args : Array Value} : ∀ w ∈ wsX10, w.before args s = true := hE.lay [355] (by decide +kernel) (by decide +kernel)
theorem wd_116 {s : State} (hE : EX s) {args : Array Value} : (Cond.before (.initialized RX7) args s) = true := hE.w 116 (by decide +kernel) rfl
theorem wd_117 {s : State} (hE : EX s) {args : Array Value} : (Cond.before (.initialized RX3) args s) = true := hE.w 117 (by decide +kernel) rfl
theorem wd_118 {s : State} (hE : EX s) {args : Array Value} : (Cond.before (.initialized RX5) args s) = true := hE.w 118 (by decide +kernel) rfl
theorem wd_119 {s : State} (hE : EX s) {args : Array Value} : (Cond.before (.initialized RX9) args s) = true := hE.w 119 (by decide +kernel) rfl
theorem wd_120 {s : State} (hE : EX s) {args : Array Value} : (Cond.before (.initialized RX10) args s) = true := hE.w 120 (by decide +kernel) rfl
theorem wd_121 {s : State} (hE : EX s) {args : Array Value} : (Cond.before (.initialized RX8) args s) = true := hE.w 121 (by decide +kernel) rfl
theorem wd_122 {s : State} (hE : EX s) {args : Array Value} : (Cond.before (.initialized RX4) args s) = true := hE.w 122 (by decide +kernel) rfl
theorem wd_123 {s : State} (hE : EX s) {args : Array Value} : (Cond.before (.initialized RX0) args s) = true := hE.w 123 (by decide +kernel) rfl
theorem wd_124 {s : State} (hE : EX s) {args : Array Value} : (Cond.before (.initialized RX6) args s) = true := hE.w 124 (by decide +kernel) rfl
theorem wd_125 {s : State} (hE : EX s) {args : Array Value} : (Cond.before (.initialized RX1) args s) = true := hE.w 125 (by decide +kernel) rfl
theorem wd_140 {s : State} (hE : EX s) {args : Array Value} : (Cond.before (.methodLink RX11 3 objectInit) args s) = true := hE.w 140 (by decide +kernel) rfl
theorem wd_141 {s : State} (hE : EX s) {args : Array Value} : (Cond.before (.instanceMethod objectInit) args s) = true := hE.w 141 (by decide +kernel) rfl
theorem wd_142 {s : State} (hE : EX s) {args : Array Value} : (Cond.before (.code objectInit ⟨#[0xb1]⟩ 1 none) args s) = true := hE.w 142 (by decide +kernel) rfl
theorem wd_143 {s : State} (hE : EX s) {args : Array Value} : (Cond.before (.classLink RX11 9 RX7) args s) = true := hE.w 143 (by decide +kernel) rfl
theorem wd_144 {s : State} (hE : EX s) {args : Array Value} : (Cond.before (.instantiable RX7 1) args s) = true := hE.w 144 (by decide +kernel) rfl
theorem wd_145 {s : State} (hE : EX s) : va_Nw (.methodLinkNest RX11 11 yX7_init RX11) s := hE.n 145 (by decide +kernel)
theorem wd_146 {s : State} (hE : EX s) {args : Array Value} : (Cond.before (.instanceMethod yX7_init) args s) = true := hE.w 146 (by decide +kernel) rfl
theorem wd_147 {s : State} (hE : EX s) {args : Array Value} : (Cond.before (.code yX7_init cX7_init 1 none) args s) = true := hE.w 147 (by decide +kernel) rfl
theorem wd_148 {s : State} (hE : EX s) {args : Array Value} : (Cond.before (.methodLink RX7 5 objectInit) args s) = true := hE.w 148 (by decide +kernel) rfl
theorem wd_149 {s : State} (hE : EX s) {args : Array Value} : (Cond.before (.fieldLink RX7 11 "GluedWords$Store" "cells" "[I") args s) = true := hE.w 149 (by decide +kernel) rfl
theorem wd_153 {s : State} (hE : EX s) {args : Array Value} : (Cond.before (.arrayClass .int) args s) = true := hE.w 153 (by decide +kernel) rfl
theorem wd_154 {s : State} (hE : EX s) {args : Array Value} : (Cond.before (.classLink RX11 16 RX3) args s) = true := hE.w 154 (by decide +kernel) rfl
theorem wd_155 {s : State} (hE : EX s) {args : Array Value} : (Cond.before (.instantiable RX3 3) args s) = true := hE.w 155 (by decide +kernel) rfl
theorem wd_156 {s : State} (hE : EX s) {args : Array Value} : (Cond.before (.methodLink RX11 18 yX3_init) args s) = true := hE.w 156 (by decide +kernel) rfl
theorem wd_157 {s : State} (hE : EX s) {args : Array Value} : (Cond.before (.instanceMethod yX3_init) args s) = true := hE.w 157 (by decide +kernel) rfl
theorem wd_158 {s : State} (hE : EX s) {args : Array Value} : (Cond.before (.code yX3_init cX3_init 2 none) args s) = true := hE.w 158 (by decide +kernel) rfl
theorem wd_159 {s : State} (hE : EX s) {args : Array Value} : (Cond.before (.methodLink RX3 3 objectInit) args s) = true := hE.w 159 (by decide +kernel) rfl
theorem wd_160 {s : State} (hE : EX s) {args : Array Value} : (Cond.before (.classLink RX3 9 RX7) args s) = true := hE.w 160 (by decide +kernel) rfl
theorem wd_162 {s : State} (hE : EX s) : va_Nw (.methodLinkNest RX3 24 yX7_init RX11) s := hE.n 162 (by decide +kernel)
theorem wd_163 {s : State} (hE : EX s) {args : Array Value} : (Cond.before (.fieldLink RX3 11 "GluedWords$History" "ring" "[LGluedWords$Store;") args s) = true := hE.w 163 (by decide +kernel) rfl
theorem wd_164 {s : State} (hE : EX s) {args : Array Value} : (Cond.before (.fieldLink RX3 17 "GluedWords$History" "first" "I") args s) = true := hE.w 164 (by decide +kernel) rfl
theorem wd_165 {s : State} (hE : EX s) {args : Array Value} : (Cond.before (.fieldLink RX3 21 "GluedWords$History" "count" "I") args s) = true := hE.w 165 (by decide +kernel) rfl
theorem wd_174 {s : State} (hE : EX s) {args : Array Value} : (Cond.before (.classLink RX11 45 RX5) args s) = true := hE.w 174 (by decide +kernel) rfl
theorem wd_175 {s : State} (hE : EX s) {args : Array Value} : (Cond.before (.instantiable RX5 10) args s) = true := hE.w 175 (by decide +kernel) rfl
theorem wd_176 {s : State} (hE : EX s) : va_Nw (.methodLinkNest RX11 47 yX5_init RX11) s := hE.n 176 (by decide +kernel)
theorem wd_177 {s : State} (hE : EX s) {args : Array Value} : (Cond.before (.instanceMethod yX5_init) args s) = true := hE.w 177 (by decide +kernel) rfl
theorem wd_178 {s : State} (hE : EX s) {args : Array Value} : (Cond.before (.code yX5_init cX5_init 1 none) args s) = true := hE.w 178 (by decide +kernel) rfl
theorem wd_179 {s : State} (hE : EX s) {args : Array Value} : (Cond.before (.methodLink RX5 3 objectInit) args s) = true := hE.w 179 (by decide +kernel) rfl
theorem wd_180 {s : State} (hE : EX s) {args : Array Value} : (Cond.before (.classLink RX5 9 RX9) args s) = true := hE.w 180 (by decide +kernel) rfl
theorem wd_181 {s : State} (hE : EX s) {args : Array Value} : (Cond.before (.instantiable RX9 6) args s) = true := hE.w 181 (by decide +kernel) rfl
theorem wd_182 {s : State} (hE : EX s) : va_Nw (.methodLinkNest RX5 11 yX9_init RX11) s := hE.n 182 (by decide +kernel)
theorem wd_183 {s : State} (hE : EX s) {args : Array Value} : (Cond.before (.instanceMethod yX9_init) args s) = true := hE.w 183 (by decide +kernel) rfl
theorem wd_184 {s : State} (hE : EX s) {args : Array Value} : (Cond.before (.code yX9_init cX9_init 1 none) args s) = true := hE.w 184 (by decide +kernel) rfl
theorem wd_185 {s : State} (hE : EX s) {args : Array Value} : (Cond.before (.methodLink RX9 3 objectInit) args s) = true := hE.w 185 (by decide +kernel) rfl
theorem wd_186 {s : State} (hE : EX s) {args : Array Value} : (Cond.before (.fieldLink RX9 9 "GluedWords$Tokens" "kinds" "[I") args s) = true := hE.w 186 (by decide +kernel) rfl
theorem wd_187 {s : State} (hE : EX s) {args : Array Value} : (Cond.before (.fieldLink RX9 15 "GluedWords$Tokens" "places" "[I") args s) = true := hE.w 187 (by decide +kernel) rfl
theorem wd_188 {s : State} (hE : EX s) {args : Array Value} : (Cond.before (.fieldLink RX9 18 "GluedWords$Tokens" "values" "[I") args s) = true := hE.w 188 (by decide +kernel) rfl
theorem wd_189 {s : State} (hE : EX s) {args : Array Value} : (Cond.before (.fieldLink RX9 21 "GluedWords$Tokens" "count" "I") args s) = true := hE.w 189 (by decide +kernel) rfl
theorem wd_190 {s : State} (hE : EX s) {args : Array Value} : (Cond.before (.fieldLink RX9 25 "GluedWords$Tokens" "text" "[B") args s) = true := hE.w 190 (by decide +kernel) rfl
theorem wd_191 {s : State} (hE : EX s) {args : Array Value} : (Cond.before (.fieldLink RX9 29 "GluedWords$Tokens" "size" "I") args s) = true := hE.w 191 (by decide +kernel) rfl
theorem wd_205 {s : State} (hE : EX s) {args : Array Value} : (Cond.before (.arrayClass .byte) args s) = true := hE.w 205 (by decide +kernel) rfl
theorem wd_206 {s : State} (hE : EX s) {args : Array Value} : (Cond.before (.classLink RX5 18 RX7) args s) = true := hE.w 206 (by decide +kernel) rfl
theorem wd_207 {s : State} (hE : EX s) : va_Nw (.methodLinkNest RX5 20 yX7_init RX11) s := hE.n 207 (by decide +kernel)
theorem wd_208 {s : State} (hE : EX s) {args : Array Value} : (Cond.before (.classLink RX5 25 RX10) args s) = true := hE.w 208 (by decide +kernel) rfl
theorem wd_209 {s : State} (hE : EX s) {args : Array Value} : (Cond.before (.instantiable RX10 4) args s) = true := hE.w 209 (by decide +kernel) rfl
theorem wd_210 {s : State} (hE : EX s) : va_Nw (.methodLinkNest RX5 27 yX10_init RX11) s := hE.n 210 (by decide +kernel)
theorem wd_211 {s : State} (hE : EX s) {args : Array Value} : (Cond.before (.instanceMethod yX10_init) args s) = true := hE.w 211 (by decide +kernel) rfl
theorem wd_212 {s : State} (hE : EX s) {args : Array Value} : (Cond.before (.code yX10_init cX10_init 1 none) args s) = true := hE.w 212 (by decide +kernel) rfl
theorem wd_213 {s : State} (hE : EX s) {args : Array Value} : (Cond.before (.methodLink RX10 3 objectInit) args s) = true := hE.w 213 (by decide +kernel) rfl
theorem wd_214 {s : State} (hE : EX s) {args : Array Value} : (Cond.before (.fieldLink RX10 9 "GluedWords$Walk" "numbers" "[I") args s) = true := hE.w 214 (by decide +kernel) rfl
theorem wd_215 {s : State} (hE : EX s) {args : Array Value} : (Cond.before (.fieldLink RX10 15 "GluedWords$Walk" "marches" "[I") args s) = true := hE.w 215 (by decide +kernel) rfl
theorem wd_216 {s : State} (hE : EX s) {args : Array Value} : (Cond.before (.fieldLink RX10 18 "GluedWords$Walk" "beginning" "I") args s) = true := hE.w 216 (by decide +kernel) rfl
theorem wd_217 {s : State} (hE : EX s) {args : Array Value} : (Cond.before (.fieldLink RX10 22 "GluedWords$Walk" "count" "I") args s) = true := hE.w 217 (by decide +kernel) rfl
theorem wd_227 {s : State} (hE : EX s) {args : Array Value} : (Cond.before (.fieldLink RX5 12 "GluedWords$Reader" "tokens" "LGluedWords$Tokens;") args s) = true := hE.w 227 (by decide +kernel) rfl
theorem wd_228 {s : State} (hE : EX s) {args : Array Value} : (Cond.before (.fieldLink RX5 21 "GluedWords$Reader" "draft" "LGluedWords$Store;") args s) = true := hE.w 228 (by decide +kernel) rfl
theorem wd_229 {s : State} (hE : EX s) {args : Array Value} : (Cond.before (.fieldLink RX5 28 "GluedWords$Reader" "walk" "LGluedWords$Walk;") args s) = true := hE.w 229 (by decide +kernel) rfl
theorem wd_230 {s : State} (hE : EX s) {args : Array Value} : (Cond.before (.fieldLink RX5 32 "GluedWords$Reader" "hasRead" "Z") args s) = true := hE.w 230 (by decide +kernel) rfl
theorem wd_231 {s : State} (hE : EX s) {args : Array Value} : (Cond.before (.fieldLink RX5 36 "GluedWords$Reader" "at" "I") args s) = true := hE.w 231 (by decide +kernel) rfl
theorem wd_232 {s : State} (hE : EX s) {args : Array Value} : (Cond.before (.fieldLink RX5 40 "GluedWords$Reader" "here" "I") args s) = true := hE.w 232 (by decide +kernel) rfl
theorem wd_233 {s : State} (hE : EX s) {args : Array Value} : (Cond.before (.fieldLink RX5 43 "GluedWords$Reader" "lines" "I") args s) = true := hE.w 233 (by decide +kernel) rfl
theorem wd_234 {s : State} (hE : EX s) {args : Array Value} : (Cond.before (.fieldLink RX5 46 "GluedWords$Reader" "faultKind" "I") args s) = true := hE.w 234 (by decide +kernel) rfl
theorem wd_235 {s : State} (hE : EX s) {args : Array Value} : (Cond.before (.fieldLink RX5 49 "GluedWords$Reader" "faultPlace" "I") args s) = true := hE.w 235 (by decide +kernel) rfl
theorem wd_236 {s : State} (hE : EX s) {args : Array Value} : (Cond.before (.fieldLink RX5 52 "GluedWords$Reader" "faultLine" "I") args s) = true := hE.w 236 (by decide +kernel) rfl
theorem wd_258 {s : State} (hE : EX s) {args : Array Value} : (Cond.before (.classLink RX11 52 RX8) args s) = true := hE.w 258 (by decide +kernel) rfl
theorem wd_259 {s : State} (hE : EX s) {args : Array Value} : (Cond.before (.instantiable RX8 2) args s) = true := hE.w 259 (by decide +kernel) rfl
theorem wd_260 {s : State} (hE : EX s) : va_Nw (.methodLinkNest RX11 54 yX8_init RX11) s := hE.n 260 (by decide +kernel)
theorem wd_261 {s : State} (hE : EX s) {args : Array Value} : (Cond.before (.instanceMethod yX8_init) args s) = true := hE.w 261 (by decide +kernel) rfl
theorem wd_262 {s : State} (hE : EX s) {args : Array Value} : (Cond.before (.code yX8_init cX8_init 1 none) args s) = true := hE.w 262 (by decide +kernel) rfl
theorem wd_263 {s : State} (hE : EX s) {args : Array Value} : (Cond.before (.methodLink RX8 3 objectInit) args s) = true := hE.w 263 (by decide +kernel) rfl
theorem wd_264 {s : State} (hE : EX s) {args : Array Value} : (Cond.before (.fieldLink RX8 9 "GluedWords$Teller" "bytes" "[B") args s) = true := hE.w 264 (by decide +kernel) rfl
theorem wd_265 {s : State} (hE : EX s) {args : Array Value} : (Cond.before (.fieldLink RX8 15 "GluedWords$Teller" "count" "I") args s) = true := hE.w 265 (by decide +kernel) rfl
theorem wd_271 {s : State} (hE : EX s) {args : Array Value} : (Cond.before (.classLink RX11 59 RX10) args s) = true := hE.w 271 (by decide +kernel) rfl
theorem wd_272 {s : State} (hE : EX s) : va_Nw (.methodLinkNest RX11 61 yX10_init RX11) s := hE.n 272 (by decide +kernel)
theorem wd_273 {s : State} (hE : EX s) {args : Array Value} : (Cond.before (.classLink RX11 78 RX4) args s) = true := hE.w 273 (by decide +kernel) rfl
theorem wd_274 {s : State} (hE : EX s) {args : Array Value} : (Cond.before (.instantiable RX4 8) args s) = true := hE.w 274 (by decide +kernel) rfl
theorem wd_275 {s : State} (hE : EX s) : va_Nw (.methodLinkNest RX11 80 yX4_init RX11) s := hE.n 275 (by decide +kernel)
theorem wd_276 {s : State} (hE : EX s) {args : Array Value} : (Cond.before (.instanceMethod yX4_init) args s) = true := hE.w 276 (by decide +kernel) rfl
theorem wd_277 {s : State} (hE : EX s) {args : Array Value} : (Cond.before (.code yX4_init cX4_init 1 none) args s) = true := hE.w 277 (by decide +kernel) rfl
theorem wd_278 {s : State} (hE : EX s) {args : Array Value} : (Cond.before (.methodLink RX4 3 objectInit) args s) = true := hE.w 278 (by decide +kernel) rfl
theorem wd_279 {s : State} (hE : EX s) {args : Array Value} : (Cond.before (.classLink RX4 9 RX10) args s) = true := hE.w 279 (by decide +kernel) rfl
theorem wd_280 {s : State} (hE : EX s) : va_Nw (.methodLinkNest RX4 11 yX10_init RX11) s := hE.n 280 (by decide +kernel)
theorem wd_281 {s : State} (hE : EX s) {args : Array Value} : (Cond.before (.classLink RX4 27 RX0) args s) = true := hE.w 281 (by decide +kernel) rfl
theorem wd_282 {s : State} (hE : EX s) {args : Array Value} : (Cond.before (.instantiable RX0 5) args s) = true := hE.w 282 (by decide +kernel) rfl
theorem wd_283 {s : State} (hE : EX s) : va_Nw (.methodLinkNest RX4 29 yX0_init RX11) s := hE.n 283 (by decide +kernel)
theorem wd_284 {s : State} (hE : EX s) {args : Array Value} : (Cond.before (.instanceMethod yX0_init) args s) = true := hE.w 284 (by decide +kernel) rfl
theorem wd_285 {s : State} (hE : EX s) {args : Array Value} : (Cond.before (.code yX0_init cX0_init 1 none) args s) = true := hE.w 285 (by decide +kernel) rfl
theorem wd_286 {s : State} (hE : EX s) {args : Array Value} : (Cond.before (.methodLink RX0 3 objectInit) args s) = true := hE.w 286 (by decide +kernel) rfl
theorem wd_287 {s : State} (hE : EX s) {args : Array Value} : (Cond.before (.classLink RX0 21 RX10) args s) = true := hE.w 287 (by decide +kernel) rfl
theorem wd_288 {s : State} (hE : EX s) : va_Nw (.methodLinkNest RX0 23 yX10_init RX11) s := hE.n 288 (by decide +kernel)
theorem wd_289 {s : State} (hE : EX s) {args : Array Value} : (Cond.before (.fieldLink RX0 9 "GluedWords$Carrier" "fromIndices" "[I") args s) = true := hE.w 289 (by decide +kernel) rfl
theorem wd_290 {s : State} (hE : EX s) {args : Array Value} : (Cond.before (.fieldLink RX0 15 "GluedWords$Carrier" "toIndices" "[I") args s) = true := hE.w 290 (by decide +kernel) rfl
theorem wd_291 {s : State} (hE : EX s) {args : Array Value} : (Cond.before (.fieldLink RX0 18 "GluedWords$Carrier" "orders" "[I") args s) = true := hE.w 291 (by decide +kernel) rfl
theorem wd_292 {s : State} (hE : EX s) {args : Array Value} : (Cond.before (.fieldLink RX0 24 "GluedWords$Carrier" "trial" "LGluedWords$Walk;") args s) = true := hE.w 292 (by decide +kernel) rfl
theorem wd_293 {s : State} (hE : EX s) {args : Array Value} : (Cond.before (.fieldLink RX0 28 "GluedWords$Carrier" "target" "LGluedWords$Walk;") args s) = true := hE.w 293 (by decide +kernel) rfl
theorem wd_305 {s : State} (hE : EX s) {args : Array Value} : (Cond.before (.fieldLink RX4 12 "GluedWords$Kinship" "first" "LGluedWords$Walk;") args s) = true := hE.w 305 (by decide +kernel) rfl
theorem wd_306 {s : State} (hE : EX s) {args : Array Value} : (Cond.before (.fieldLink RX4 18 "GluedWords$Kinship" "second" "LGluedWords$Walk;") args s) = true := hE.w 306 (by decide +kernel) rfl
theorem wd_307 {s : State} (hE : EX s) {args : Array Value} : (Cond.before (.fieldLink RX4 21 "GluedWords$Kinship" "begun" "LGluedWords$Walk;") args s) = true := hE.w 307 (by decide +kernel) rfl
theorem wd_308 {s : State} (hE : EX s) {args : Array Value} : (Cond.before (.fieldLink RX4 24 "GluedWords$Kinship" "spare" "LGluedWords$Walk;") args s) = true := hE.w 308 (by decide +kernel) rfl
theorem wd_309 {s : State} (hE : EX s) {args : Array Value} : (Cond.before (.fieldLink RX4 30 "GluedWords$Kinship" "carrier" "LGluedWords$Carrier;") args s) = true := hE.w 309 (by decide +kernel) rfl
theorem wd_310 {s : State} (hE : EX s) {args : Array Value} : (Cond.before (.fieldLink RX4 34 "GluedWords$Kinship" "far" "[I") args s) = true := hE.w 310 (by decide +kernel) rfl
theorem wd_311 {s : State} (hE : EX s) {args : Array Value} : (Cond.before (.fieldLink RX4 38 "GluedWords$Kinship" "behind" "I") args s) = true := hE.w 311 (by decide +kernel) rfl
theorem wd_312 {s : State} (hE : EX s) {args : Array Value} : (Cond.before (.fieldLink RX4 42 "GluedWords$Kinship" "taken" "I") args s) = true := hE.w 312 (by decide +kernel) rfl
theorem wd_330 {s : State} (hE : EX s) {args : Array Value} : (Cond.before (.classLink RX11 85 RX0) args s) = true := hE.w 330 (by decide +kernel) rfl
theorem wd_331 {s : State} (hE : EX s) : va_Nw (.methodLinkNest RX11 87 yX0_init RX11) s := hE.n 331 (by decide +kernel)
theorem wd_332 {s : State} (hE : EX s) {args : Array Value} : (Cond.before (.classLink RX11 92 RX6) args s) = true := hE.w 332 (by decide +kernel) rfl
theorem wd_333 {s : State} (hE : EX s) {args : Array Value} : (Cond.before (.instantiable RX6 3) args s) = true := hE.w 333 (by decide +kernel) rfl
theorem wd_334 {s : State} (hE : EX s) : va_Nw (.methodLinkNest RX11 94 yX6_init RX11) s := hE.n 334 (by decide +kernel)
theorem wd_335 {s : State} (hE : EX s) {args : Array Value} : (Cond.before (.instanceMethod yX6_init) args s) = true := hE.w 335 (by decide +kernel) rfl
theorem wd_336 {s : State} (hE : EX s) {args : Array Value} : (Cond.before (.code yX6_init cX6_init 1 none) args s) = true := hE.w 336 (by decide +kernel) rfl
theorem wd_337 {s : State} (hE : EX s) {args : Array Value} : (Cond.before (.methodLink RX6 3 objectInit) args s) = true := hE.w 337 (by decide +kernel) rfl
theorem wd_338 {s : State} (hE : EX s) {args : Array Value} : (Cond.before (.fieldLink RX6 9 "GluedWords$Shape" "leasts" "[I") args s) = true := hE.w 338 (by decide +kernel) rfl
theorem wd_339 {s : State} (hE : EX s) {args : Array Value} : (Cond.before (.fieldLink RX6 15 "GluedWords$Shape" "over" "J") args s) = true := hE.w 339 (by decide +kernel) rfl
theorem wd_340 {s : State} (hE : EX s) {args : Array Value} : (Cond.before (.fieldLink RX6 19 "GluedWords$Shape" "under" "J") args s) = true := hE.w 340 (by decide +kernel) rfl
theorem wd_348 {s : State} (hE : EX s) {args : Array Value} : (Cond.before (.classLink RX11 99 RX1) args s) = true := hE.w 348 (by decide +kernel) rfl
theorem wd_349 {s : State} (hE : EX s) {args : Array Value} : (Cond.before (.instantiable RX1 1) args s) = true := hE.w 349 (by decide +kernel) rfl
theorem wd_350 {s : State} (hE : EX s) : va_Nw (.methodLinkNest RX11 101 yX1_init RX11) s := hE.n 350 (by decide +kernel)
theorem wd_351 {s : State} (hE : EX s) {args : Array Value} : (Cond.before (.instanceMethod yX1_init) args s) = true := hE.w 351 (by decide +kernel) rfl
theorem wd_352 {s : State} (hE : EX s) {args : Array Value} : (Cond.before (.code yX1_init cX1_init 1 none) args s) = true := hE.w 352 (by decide +kernel) rfl
theorem wd_353 {s : State} (hE : EX s) {args : Array Value} : (Cond.before (.methodLink RX1 3 objectInit) args s) = true := hE.w 353 (by decide +kernel) rfl
theorem wd_354 {s : State} (hE : EX s) {args : Array Value} : (Cond.before (.fieldLink RX1 9 "GluedWords$Counts" "ways" "[J") args s) = true := hE.w 354 (by decide +kernel) rfl
theorem wd_358 {s : State} (hE : EX s) {args : Array Value} : (Cond.before (.arrayClass .long) args s) = true := hE.w 358 (by decide +kernel) rfl
theorem wd_359 {s : State} (hE : EX s) {args : Array Value} : (Cond.before (.fieldLink RX11 12 "GluedWords" "now" "LGluedWords$Store;") args s) = true := hE.w 359 (by decide +kernel) rfl
theorem wd_360 {s : State} (hE : EX s) {args : Array Value} : (Cond.before (.fieldLink RX11 19 "GluedWords" "history" "LGluedWords$History;") args s) = true := hE.w 360 (by decide +kernel) rfl
theorem wd_361 {s : State} (hE : EX s) {args : Array Value} : (Cond.before (.fieldLink RX11 23 "GluedWords" "markedStores" "[LGluedWords$Store;") args s) = true := hE.w 361 (by decide +kernel) rfl
theorem wd_362 {s : State} (hE : EX s) {args : Array Value} : (Cond.before (.fieldLink RX11 27 "GluedWords" "markedHistories" "[LGluedWords$History;") args s) = true := hE.w 362 (by decide +kernel) rfl
theorem wd_363 {s : State} (hE : EX s) {args : Array Value} : (Cond.before (.fieldLink RX11 31 "GluedWords" "markCount" "I") args s) = true := hE.w 363 (by decide +kernel) rfl
theorem wd_364 {s : State} (hE : EX s) {args : Array Value} : (Cond.before (.fieldLink RX11 35 "GluedWords" "latest" "I") args s) = true := hE.w 364 (by decide +kernel) rfl
theorem wd_365 {s : State} (hE : EX s) {args : Array Value} : (Cond.before (.fieldLink RX11 38 "GluedWords" "tape" "[B") args s) = true := hE.w 365 (by decide +kernel) rfl
theorem wd_366 {s : State} (hE : EX s) {args : Array Value} : (Cond.before (.fieldLink RX11 42 "GluedWords" "tapeSize" "I") args s) = true := hE.w 366 (by decide +kernel) rfl
theorem wd_367 {s : State} (hE : EX s) {args : Array Value} : (Cond.before (.fieldLink RX11 48 "GluedWords" "reader" "LGluedWords$Reader;") args s) = true := hE.w 367 (by decide +kernel) rfl
theorem wd_368 {s : State} (hE : EX s) {args : Array Value} : (Cond.before (.fieldLink RX11 55 "GluedWords" "teller" "LGluedWords$Teller;") args s) = true := hE.w 368 (by decide +kernel) rfl
theorem wd_369 {s : State} (hE : EX s) {args : Array Value} : (Cond.before (.fieldLink RX11 62 "GluedWords" "one" "LGluedWords$Walk;") args s) = true := hE.w 369 (by decide +kernel) rfl
theorem wd_370 {s : State} (hE : EX s) {args : Array Value} : (Cond.before (.fieldLink RX11 66 "GluedWords" "two" "LGluedWords$Walk;") args s) = true := hE.w 370 (by decide +kernel) rfl
theorem wd_371 {s : State} (hE : EX s) {args : Array Value} : (Cond.before (.fieldLink RX11 69 "GluedWords" "row" "LGluedWords$Walk;") args s) = true := hE.w 371 (by decide +kernel) rfl
theorem wd_372 {s : State} (hE : EX s) {args : Array Value} : (Cond.before (.fieldLink RX11 72 "GluedWords" "otherRow" "LGluedWords$Walk;") args s) = true := hE.w 372 (by decide +kernel) rfl
theorem wd_373 {s : State} (hE : EX s) {args : Array Value} : (Cond.before (.fieldLink RX11 75 "GluedWords" "spare" "LGluedWords$Walk;") args s) = true := hE.w 373 (by decide +kernel) rfl
theorem wd_374 {s : State} (hE : EX s) {args : Array Value} : (Cond.before (.fieldLink RX11 81 "GluedWords" "kinship" "LGluedWords$Kinship;") args s) = true := hE.w 374 (by decide +kernel) rfl
theorem wd_375 {s : State} (hE : EX s) {args : Array Value} : (Cond.before (.fieldLink RX11 88 "GluedWords" "carrier" "LGluedWords$Carrier;") args s) = true := hE.w 375 (by decide +kernel) rfl
theorem wd_376 {s : State} (hE : EX s) {args : Array Value} : (Cond.before (.fieldLink RX11 95 "GluedWords" "shape" "LGluedWords$Shape;") args s) = true := hE.w 376 (by decide +kernel) rfl
theorem wd_377 {s : State} (hE : EX s) {args : Array Value} : (Cond.before (.fieldLink RX11 102 "GluedWords" "counts" "LGluedWords$Counts;") args s) = true := hE.w 377 (by decide +kernel) rfl
