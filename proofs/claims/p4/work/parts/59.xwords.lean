theorem wd_4 {s : State} (hE : EX s) {args : Array Value} : (Cond.before (.selects RX9 yX9_add yX9_add) args s) = true := hE.w 4 (by decide +kernel) rfl
theorem wd_5 {s : State} (hE : EX s) {args : Array Value} : (Cond.before (.selects RX9 yX9_kindOf yX9_kindOf) args s) = true := hE.w 5 (by decide +kernel) rfl
theorem wd_6 {s : State} (hE : EX s) {args : Array Value} : (Cond.before (.selects RX9 yX9_isText yX9_isText) args s) = true := hE.w 6 (by decide +kernel) rfl
theorem wd_7 {s : State} (hE : EX s) {args : Array Value} : (Cond.before (.selects RX9 yX9_numberIn yX9_numberIn) args s) = true := hE.w 7 (by decide +kernel) rfl
theorem wd_9 {s : State} (hE : EX s) {args : Array Value} : (Cond.before (.selects RX5 yX5_readVertex yX5_readVertex) args s) = true := hE.w 9 (by decide +kernel) rfl
theorem wd_15 {s : State} (hE : EX s) {args : Array Value} : (Cond.before (.selects RX5 yX5_readEdge yX5_readEdge) args s) = true := hE.w 15 (by decide +kernel) rfl
theorem wd_18 {s : State} (hE : EX s) {args : Array Value} : (Cond.before (.selects RX5 yX5_readWalk yX5_readWalk) args s) = true := hE.w 18 (by decide +kernel) rfl
theorem wd_448 {s : State} (hE : EX s) {args : Array Value} : (Cond.before (.methodLink RX5 58 yX9_cut) args s) = true := hE.w 448 (by decide +kernel) rfl
theorem wd_449 {s : State} (hE : EX s) {args : Array Value} : (Cond.before (.instanceMethod yX9_cut) args s) = true := hE.w 449 (by decide +kernel) rfl
theorem wd_450 {s : State} (hE : EX s) {args : Array Value} : (Cond.before (.selects RX9 yX9_cut yX9_cut) args s) = true := hE.w 450 (by decide +kernel) rfl
theorem wd_451 {s : State} (hE : EX s) {args : Array Value} : (Cond.before (.code yX9_cut cX9_cut 6 none) args s) = true := hE.w 451 (by decide +kernel) rfl
theorem wd_469 {s : State} (hE : EX s) {args : Array Value} : (Cond.before (.methodLink RX9 45 yX9_add) args s) = true := hE.w 469 (by decide +kernel) rfl
theorem wd_471 {s : State} (hE : EX s) {args : Array Value} : (Cond.before (.instanceMethod yX9_add) args s) = true := hE.w 471 (by decide +kernel) rfl
theorem wd_472 {s : State} (hE : EX s) {args : Array Value} : (Cond.before (.code yX9_add cX9_add 3 none) args s) = true := hE.w 472 (by decide +kernel) rfl
theorem wd_473 {s : State} (hE : EX s) {args : Array Value} : (Cond.before (.methodLink RX9 59 yX9_kindOf) args s) = true := hE.w 473 (by decide +kernel) rfl
theorem wd_475 {s : State} (hE : EX s) {args : Array Value} : (Cond.before (.instanceMethod yX9_kindOf) args s) = true := hE.w 475 (by decide +kernel) rfl
theorem wd_476 {s : State} (hE : EX s) {args : Array Value} : (Cond.before (.code yX9_kindOf cX9_kindOf 4 (some .int)) args s) = true := hE.w 476 (by decide +kernel) rfl
theorem wd_477 {s : State} (hE : EX s) {args : Array Value} : (Cond.before (.methodLink RX9 65 yX9_signOf) args s) = true := hE.w 477 (by decide +kernel) rfl
theorem wd_478 {s : State} (hE : EX s) {args : Array Value} : (Cond.before (.static yX9_signOf) args s) = true := hE.w 478 (by decide +kernel) rfl
theorem wd_479 {s : State} (hE : EX s) {args : Array Value} : (Cond.before (.code yX9_signOf cX9_signOf 1 (some .int)) args s) = true := hE.w 479 (by decide +kernel) rfl
theorem wd_481 {s : State} (hE : EX s) {args : Array Value} : (Cond.before (.methodLink RX9 70 yX9_isText) args s) = true := hE.w 481 (by decide +kernel) rfl
theorem wd_483 {s : State} (hE : EX s) {args : Array Value} : (Cond.before (.instanceMethod yX9_isText) args s) = true := hE.w 483 (by decide +kernel) rfl
theorem wd_484 {s : State} (hE : EX s) {args : Array Value} : (Cond.before (.code yX9_isText cX9_isText 5 (some .boolean)) args s) = true := hE.w 484 (by decide +kernel) rfl
theorem wd_485 {s : State} (hE : EX s) {args : Array Value} : (Cond.before (.methodLink RX9 78 yJ0_length_8abf5) args s) = true := hE.w 485 (by decide +kernel) rfl
theorem wd_495 {s : State} (hE : EX s) {args : Array Value} : (Cond.before (.methodLink RX9 84 yJ0_charAt_5068e) args s) = true := hE.w 495 (by decide +kernel) rfl
theorem wd_535 {s : State} (hE : EX s) {args : Array Value} : (Cond.before (.methodLink RX9 62 yX9_numberIn) args s) = true := hE.w 535 (by decide +kernel) rfl
theorem wd_537 {s : State} (hE : EX s) {args : Array Value} : (Cond.before (.instanceMethod yX9_numberIn) args s) = true := hE.w 537 (by decide +kernel) rfl
theorem wd_538 {s : State} (hE : EX s) {args : Array Value} : (Cond.before (.code yX9_numberIn cX9_numberIn 5 (some .int)) args s) = true := hE.w 538 (by decide +kernel) rfl
theorem wd_550 {s : State} (hE : EX s) {args : Array Value} : (Cond.before (.methodLink RX5 66 yX5_readVertex) args s) = true := hE.w 550 (by decide +kernel) rfl
theorem wd_552 {s : State} (hE : EX s) {args : Array Value} : (Cond.before (.instanceMethod yX5_readVertex) args s) = true := hE.w 552 (by decide +kernel) rfl
theorem wd_553 {s : State} (hE : EX s) {args : Array Value} : (Cond.before (.code yX5_readVertex cX5_readVertex 2 none) args s) = true := hE.w 553 (by decide +kernel) rfl
theorem wd_591 {s : State} (hE : EX s) {args : Array Value} : (Cond.before (.methodLink RX5 69 yX5_readEdge) args s) = true := hE.w 591 (by decide +kernel) rfl
theorem wd_593 {s : State} (hE : EX s) {args : Array Value} : (Cond.before (.instanceMethod yX5_readEdge) args s) = true := hE.w 593 (by decide +kernel) rfl
theorem wd_594 {s : State} (hE : EX s) {args : Array Value} : (Cond.before (.code yX5_readEdge cX5_readEdge 5 none) args s) = true := hE.w 594 (by decide +kernel) rfl
theorem wd_626 {s : State} (hE : EX s) {args : Array Value} : (Cond.before (.methodLink RX5 72 yX5_readWalk) args s) = true := hE.w 626 (by decide +kernel) rfl
theorem wd_628 {s : State} (hE : EX s) {args : Array Value} : (Cond.before (.instanceMethod yX5_readWalk) args s) = true := hE.w 628 (by decide +kernel) rfl
theorem wd_629 {s : State} (hE : EX s) {args : Array Value} : (Cond.before (.code yX5_readWalk cX5_readWalk 2 none) args s) = true := hE.w 629 (by decide +kernel) rfl

