theorem ly_X7 {s : State} (hE : EX s) {args : Array Value} : ∀ w ∈ wsX70, w.before args s = true := hE.lay [150] (by decide +kernel) (by decide +kernel)
theorem ly_X11 {s : State} (hE : EX s) {args : Array Value} : ∀ w ∈ wsX110, w.before args s = true := hE.lay [378, 380, 382, 384, 386, 388, 390, 392, 394, 396, 398, 400, 402, 404, 406, 408, 410, 412, 414] (by decide +kernel) (by decide +kernel)
theorem wd_1 {s : State} (hE : EX s) {args : Array Value} : (Cond.before (.selects RX11 yX11_fail yX11_fail) args s) = true := hE.w 1 (by decide +kernel) rfl
theorem wd_115 {s : State} (hE : EX s) {args : Array Value} : (Cond.before (.initialized RX11) args s) = true := hE.w 115 (by decide +kernel) rfl
theorem wd_116 {s : State} (hE : EX s) {args : Array Value} : (Cond.before (.initialized RX7) args s) = true := hE.w 116 (by decide +kernel) rfl
theorem wd_149 {s : State} (hE : EX s) {args : Array Value} : (Cond.before (.fieldLink RX7 11 "GluedWords$Store" "cells" "[I") args s) = true := hE.w 149 (by decide +kernel) rfl
theorem wd_359 {s : State} (hE : EX s) {args : Array Value} : (Cond.before (.fieldLink RX11 12 "GluedWords" "now" "LGluedWords$Store;") args s) = true := hE.w 359 (by decide +kernel) rfl
theorem wd_364 {s : State} (hE : EX s) {args : Array Value} : (Cond.before (.fieldLink RX11 35 "GluedWords" "latest" "I") args s) = true := hE.w 364 (by decide +kernel) rfl
theorem wd_433 {s : State} (hE : EX s) {args : Array Value} : (Cond.before (.methodLink RX11 110 yX11_fail) args s) = true := hE.w 433 (by decide +kernel) rfl
theorem wd_435 {s : State} (hE : EX s) {args : Array Value} : (Cond.before (.instanceMethod yX11_fail) args s) = true := hE.w 435 (by decide +kernel) rfl
theorem wd_436 {s : State} (hE : EX s) {args : Array Value} : (Cond.before (.code yX11_fail cX11_fail 2 (some .int)) args s) = true := hE.w 436 (by decide +kernel) rfl
theorem wd_604 {s : State} (hE : EX s) {args : Array Value} : (Cond.before (.instanceMethod yX7_hasVertex) args s) = true := hE.w 604 (by decide +kernel) rfl
theorem wd_605 {s : State} (hE : EX s) {args : Array Value} : (Cond.before (.selects RX7 yX7_hasVertex yX7_hasVertex) args s) = true := hE.w 605 (by decide +kernel) rfl
theorem wd_606 {s : State} (hE : EX s) {args : Array Value} : (Cond.before (.code yX7_hasVertex cX7_hasVertex 2 (some .boolean)) args s) = true := hE.w 606 (by decide +kernel) rfl
theorem wd_796 {s : State} (hE : EX s) {args : Array Value} : (Cond.before (.methodLink RX11 152 yX7_hasVertex) args s) = true := hE.w 796 (by decide +kernel) rfl
