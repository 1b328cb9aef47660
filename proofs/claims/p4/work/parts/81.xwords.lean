theorem wd_140 {s : State} (hE : EX s) {args : Array Value} : (Cond.before (.methodLink RX11 3 objectInit) args s) = true := hE.w 140 (by decide +kernel) rfl
theorem wd_141 {s : State} (hE : EX s) {args : Array Value} : (Cond.before (.instanceMethod objectInit) args s) = true := hE.w 141 (by decide +kernel) rfl
theorem wd_142 {s : State} (hE : EX s) {args : Array Value} : (Cond.before (.code objectInit ⟨#[0xb1]⟩ 1 none) args s) = true := hE.w 142 (by decide +kernel) rfl
theorem wd_143 {s : State} (hE : EX s) {args : Array Value} : (Cond.before (.classLink RX11 9 RX7) args s) = true := hE.w 143 (by decide +kernel) rfl
theorem wd_144 {s : State} (hE : EX s) {args : Array Value} : (Cond.before (.instantiable RX7 1) args s) = true := hE.w 144 (by decide +kernel) rfl
theorem wd_145 {s : State} (hE : EX s) : va_Nw (.methodLinkNest RX11 11 yX7_init RX11) s := hE.n 145 (by decide +kernel)
theorem wd_146 {s : State} (hE : EX s) {args : Array Value} : (Cond.before (.instanceMethod yX7_init) args s) = true := hE.w 146 (by decide +kernel) rfl
theorem wd_147 {s : State} (hE : EX s) {args : Array Value} : (Cond.before (.code yX7_init cX7_init 1 none) args s) = true := hE.w 147 (by decide +kernel) rfl
theorem wd_148 {s : State} (hE : EX s) {args : Array Value} : (Cond.before (.methodLink RX7 5 objectInit) args s) = true := hE.w 148 (by decide +kernel) rfl
theorem wd_153 {s : State} (hE : EX s) {args : Array Value} : (Cond.before (.arrayClass .int) args s) = true := hE.w 153 (by decide +kernel) rfl
theorem wd_154 {s : State} (hE : EX s) {args : Array Value} : (Cond.before (.classLink RX11 16 RX3) args s) = true := hE.w 154 (by decide +kernel) rfl
theorem wd_155 {s : State} (hE : EX s) {args : Array Value} : (Cond.before (.instantiable RX3 3) args s) = true := hE.w 155 (by decide +kernel) rfl
theorem wd_156 {s : State} (hE : EX s) {args : Array Value} : (Cond.before (.methodLink RX11 18 yX3_init) args s) = true := hE.w 156 (by decide +kernel) rfl
theorem wd_157 {s : State} (hE : EX s) {args : Array Value} : (Cond.before (.instanceMethod yX3_init) args s) = true := hE.w 157 (by decide +kernel) rfl
theorem wd_158 {s : State} (hE : EX s) {args : Array Value} : (Cond.before (.code yX3_init cX3_init 2 none) args s) = true := hE.w 158 (by decide +kernel) rfl
theorem wd_159 {s : State} (hE : EX s) {args : Array Value} : (Cond.before (.methodLink RX3 3 objectInit) args s) = true := hE.w 159 (by decide +kernel) rfl
theorem wd_160 {s : State} (hE : EX s) {args : Array Value} : (Cond.before (.classLink RX3 9 RX7) args s) = true := hE.w 160 (by decide +kernel) rfl
theorem wd_162 {s : State} (hE : EX s) : va_Nw (.methodLinkNest RX3 24 yX7_init RX11) s := hE.n 162 (by decide +kernel)
theorem wd_174 {s : State} (hE : EX s) {args : Array Value} : (Cond.before (.classLink RX11 45 RX5) args s) = true := hE.w 174 (by decide +kernel) rfl
theorem wd_175 {s : State} (hE : EX s) {args : Array Value} : (Cond.before (.instantiable RX5 10) args s) = true := hE.w 175 (by decide +kernel) rfl
theorem wd_176 {s : State} (hE : EX s) : va_Nw (.methodLinkNest RX11 47 yX5_init RX11) s := hE.n 176 (by decide +kernel)
theorem wd_177 {s : State} (hE : EX s) {args : Array Value} : (Cond.before (.instanceMethod yX5_init) args s) = true := hE.w 177 (by decide +kernel) rfl
theorem wd_178 {s : State} (hE : EX s) {args : Array Value} : (Cond.before (.code yX5_init cX5_init 1 none) args s) = true := hE.w 178 (by decide +kernel) rfl
theorem wd_179 {s : State} (hE : EX s) {args : Array Value} : (Cond.before (.methodLink RX5 3 objectInit) args s) = true := hE.w 179 (by decide +kernel) rfl
theorem wd_180 {s : State} (hE : EX s) {args : Array Value} : (Cond.before (.classLink RX5 9 RX9) args s) = true := hE.w 180 (by decide +kernel) rfl
theorem wd_181 {s : State} (hE : EX s) {args : Array Value} : (Cond.before (.instantiable RX9 6) args s) = true := hE.w 181 (by decide +kernel) rfl
theorem wd_182 {s : State} (hE : EX s) : va_Nw (.methodLinkNest RX5 11 yX9_init RX11) s := hE.n 182 (by decide +kernel)
theorem wd_183 {s : State} (hE : EX s) {args : Array Value} : (Cond.before (.instanceMethod yX9_init) args s) = true := hE.w 183 (by decide +kernel) rfl
theorem wd_184 {s : State} (hE : EX s) {args : Array Value} : (Cond.before (.code yX9_init cX9_init 1 none) args s) = true := hE.w 184 (by decide +kernel) rfl
theorem wd_185 {s : State} (hE : EX s) {args : Array Value} : (Cond.before (.methodLink RX9 3 objectInit) args s) = true := hE.w 185 (by decide +kernel) rfl
theorem wd_205 {s : State} (hE : EX s) {args : Array Value} : (Cond.before (.arrayClass .byte) args s) = true := hE.w 205 (by decide +kernel) rfl
theorem wd_206 {s : State} (hE : EX s) {args : Array Value} : (Cond.before (.classLink RX5 18 RX7) args s) = true := hE.w 206 (by decide +kernel) rfl
theorem wd_207 {s : State} (hE : EX s) : va_Nw (.methodLinkNest RX5 20 yX7_init RX11) s := hE.n 207 (by decide +kernel)
theorem wd_208 {s : State} (hE : EX s) {args : Array Value} : (Cond.before (.classLink RX5 25 RX10) args s) = true := hE.w 208 (by decide +kernel) rfl
theorem wd_209 {s : State} (hE : EX s) {args : Array Value} : (Cond.before (.instantiable RX10 4) args s) = true := hE.w 209 (by decide +kernel) rfl
theorem wd_210 {s : State} (hE : EX s) : va_Nw (.methodLinkNest RX5 27 yX10_init RX11) s := hE.n 210 (by decide +kernel)
theorem wd_211 {s : State} (hE : EX s) {args : Array Value} : (Cond.before (.instanceMethod yX10_init) args s) = true := hE.w 211 (by decide +kernel) rfl
theorem wd_212 {s : State} (hE : EX s) {args : Array Value} : (Cond.before (.code yX10_init cX10_init 1 none) args s) = true := hE.w 212 (by decide +kernel) rfl
theorem wd_213 {s : State} (hE : EX s) {args : Array Value} : (Cond.before (.methodLink RX10 3 objectInit) args s) = true := hE.w 213 (by decide +kernel) rfl
theorem wd_258 {s : State} (hE : EX s) {args : Array Value} : (Cond.before (.classLink RX11 52 RX8) args s) = true := hE.w 258 (by decide +kernel) rfl
theorem wd_259 {s : State} (hE : EX s) {args : Array Value} : (Cond.before (.instantiable RX8 2) args s) = true := hE.w 259 (by decide +kernel) rfl
theorem wd_260 {s : State} (hE : EX s) : va_Nw (.methodLinkNest RX11 54 yX8_init RX11) s := hE.n 260 (by decide +kernel)
theorem wd_261 {s : State} (hE : EX s) {args : Array Value} : (Cond.before (.instanceMethod yX8_init) args s) = true := hE.w 261 (by decide +kernel) rfl
theorem wd_262 {s : State} (hE : EX s) {args : Array Value} : (Cond.before (.code yX8_init cX8_init 1 none) args s) = true := hE.w 262 (by decide +kernel) rfl
theorem wd_263 {s : State} (hE : EX s) {args : Array Value} : (Cond.before (.methodLink RX8 3 objectInit) args s) = true := hE.w 263 (by decide +kernel) rfl
theorem wd_271 {s : State} (hE : EX s) {args : Array Value} : (Cond.before (.classLink RX11 59 RX10) args s) = true := hE.w 271 (by decide +kernel) rfl
theorem wd_272 {s : State} (hE : EX s) : va_Nw (.methodLinkNest RX11 61 yX10_init RX11) s := hE.n 272 (by decide +kernel)
theorem wd_273 {s : State} (hE : EX s) {args : Array Value} : (Cond.before (.classLink RX11 78 RX4) args s) = true := hE.w 273 (by decide +kernel) rfl
theorem wd_274 {s : State} (hE : EX s) {args : Array Value} : (Cond.before (.instantiable RX4 8) args s) = true := hE.w 274 (by decide +kernel) rfl
theorem wd_275 {s : State} (hE : EX s) : va_Nw (.methodLinkNest RX11 80 yX4_init RX11) s := hE.n 275 (by decide +kernel)
theorem wd_276 {s : State} (hE : EX s) {args : Array Value} : (Cond.before (.instanceMethod yX4_init) args s) = true := hE.w 276 (by decide +kernel) rfl
theorem wd_277 {s : State} (hE : EX s) {args : Array Value} : (Cond.before (.code yX4_init cX4_init 1 none) args s) = true := hE.w 277 (by decide +kernel) rfl
theorem wd_278 {s : State} (hE : EX s) {args : Array Value} : (Cond.before (.methodLink RX4 3 objectInit) args s) = true := hE.w 278 (by decide +kernel) rfl
theorem wd_279 {s : State} (hE : EX s) {args : Array Value} : (Cond.before (.classLink RX4 9 RX10) args s) = true := hE.w 279 (by decide +kernel) rfl
theorem wd_280 {s : State} (hE : EX s) : va_Nw (.methodLinkNest RX4 11 yX10_init RX11) s := hE.n 280 (by decide +kernel)
theorem wd_281 {s : State} (hE : EX s) {args : Array Value} : (Cond.before (.classLink RX4 27 RX0) args s) = true := hE.w 281 (by decide +kernel) rfl
theorem wd_282 {s : State} (hE : EX s) {args : Array Value} : (Cond.before (.instantiable RX0 5) args s) = true := hE.w 282 (by decide +kernel) rfl
theorem wd_283 {s : State} (hE : EX s) : va_Nw (.methodLinkNest RX4 29 yX0_init RX11) s := hE.n 283 (by decide +kernel)
theorem wd_284 {s : State} (hE : EX s) {args : Array Value} : (Cond.before (.instanceMethod yX0_init) args s) = true := hE.w 284 (by decide +kernel) rfl
theorem wd_285 {s : State} (hE : EX s) {args : Array Value} : (Cond.before (.code yX0_init cX0_init 1 none) args s) = true := hE.w 285 (by decide +kernel) rfl
theorem wd_286 {s : State} (hE : EX s) {args : Array Value} : (Cond.before (.methodLink RX0 3 objectInit) args s) = true := hE.w 286 (by decide +kernel) rfl
theorem wd_287 {s : State} (hE : EX s) {args : Array Value} : (Cond.before (.classLink RX0 21 RX10) args s) = true := hE.w 287 (by decide +kernel) rfl
theorem wd_288 {s : State} (hE : EX s) : va_Nw (.methodLinkNest RX0 23 yX10_init RX11) s := hE.n 288 (by decide +kernel)
theorem wd_330 {s : State} (hE : EX s) {args : Array Value} : (Cond.before (.classLink RX11 85 RX0) args s) = true := hE.w 330 (by decide +kernel) rfl
theorem wd_331 {s : State} (hE : EX s) : va_Nw (.methodLinkNest RX11 87 yX0_init RX11) s := hE.n 331 (by decide +kernel)
theorem wd_332 {s : State} (hE : EX s) {args : Array Value} : (Cond.before (.classLink RX11 92 RX6) args s) = true := hE.w 332 (by decide +kernel) rfl
theorem wd_333 {s : State} (hE : EX s) {args : Array Value} : (Cond.before (.instantiable RX6 3) args s) = true := hE.w 333 (by decide +kernel) rfl
theorem wd_334 {s : State} (hE : EX s) : va_Nw (.methodLinkNest RX11 94 yX6_init RX11) s := hE.n 334 (by decide +kernel)
theorem wd_335 {s : State} (hE : EX s) {args : Array Value} : (Cond.before (.instanceMethod yX6_init) args s) = true := hE.w 335 (by decide +kernel) rfl
theorem wd_336 {s : State} (hE : EX s) {args : Array Value} : (Cond.before (.code yX6_init cX6_init 1 none) args s) = true := hE.w 336 (by decide +kernel) rfl
theorem wd_337 {s : State} (hE : EX s) {args : Array Value} : (Cond.before (.methodLink RX6 3 objectInit) args s) = true := hE.w 337 (by decide +kernel) rfl
theorem wd_348 {s : State} (hE : EX s) {args : Array Value} : (Cond.before (.classLink RX11 99 RX1) args s) = true := hE.w 348 (by decide +kernel) rfl
theorem wd_349 {s : State} (hE : EX s) {args : Array Value} : (Cond.before (.instantiable RX1 1) args s) = true := hE.w 349 (by decide +kernel) rfl
theorem wd_350 {s : State} (hE : EX s) : va_Nw (.methodLinkNest RX11 101 yX1_init RX11) s := hE.n 350 (by decide +kernel)
theorem wd_351 {s : State} (hE : EX s) {args : Array Value} : (Cond.before (.instanceMethod yX1_init) args s) = true := hE.w 351 (by decide +kernel) rfl
theorem wd_352 {s : State} (hE : EX s) {args : Array Value} : (Cond.before (.code yX1_init cX1_init 1 none) args s) = true := hE.w 352 (by decide +kernel) rfl
theorem wd_353 {s : State} (hE : EX s) {args : Array Value} : (Cond.before (.methodLink RX1 3 objectInit) args s) = true := hE.w 353 (by decide +kernel) rfl
theorem wd_358 {s : State} (hE : EX s) {args : Array Value} : (Cond.before (.arrayClass .long) args s) = true := hE.w 358 (by decide +kernel) rfl
