theorem wd_129 {s : State} (hE : EX s) {args : Array Value} : (Cond.before (.initialized RJ0) args s) = true := hE.w 129 (by decide +kernel) rfl
theorem wd_130 {s : State} (hE : EX s) {args : Array Value} : (Cond.before (.initialized RJ1) args s) = true := hE.w 130 (by decide +kernel) rfl
theorem wd_131 {s : State} (hE : EX s) {args : Array Value} : (Cond.before (.initialized RJ3) args s) = true := hE.w 131 (by decide +kernel) rfl
theorem wd_486 {s : State} (hE : EX s) {args : Array Value} : (Cond.before (.instanceMethod yJ0_length_8abf5) args s) = true := hE.w 486 (by decide +kernel) rfl
theorem wd_487 {s : State} (hE : EX s) {args : Array Value} : (Cond.before (.selects RJ0 yJ0_length_8abf5 yJ0_length_8abf5) args s) = true := hE.w 487 (by decide +kernel) rfl
theorem wd_488 {s : State} (hE : EX s) {args : Array Value} : (Cond.before (.code yJ0_length_8abf5 cJ0_length_8abf5 1 (some .int)) args s) = true := hE.w 488 (by decide +kernel) rfl
theorem wd_489 {s : State} (hE : EX s) {args : Array Value} : (Cond.before (.methodLink RJ0 335 yJ0_coder_7d493) args s) = true := hE.w 489 (by decide +kernel) rfl
theorem wd_490 {s : State} (hE : EX s) {args : Array Value} : (Cond.before (.instanceMethod yJ0_coder_7d493) args s) = true := hE.w 490 (by decide +kernel) rfl
theorem wd_491 {s : State} (hE : EX s) {args : Array Value} : (Cond.before (.selects RJ0 yJ0_coder_7d493 yJ0_coder_7d493) args s) = true := hE.w 491 (by decide +kernel) rfl
theorem wd_492 {s : State} (hE : EX s) {args : Array Value} : (Cond.before (.code yJ0_coder_7d493 cJ0_coder_7d493 1 (some .byte)) args s) = true := hE.w 492 (by decide +kernel) rfl
theorem wd_493 {s : State} (hE : EX s) {args : Array Value} : (Cond.before (.fieldLink RJ0 38 "java/lang/String" "COMPACT_STRINGS" "Z") args s) = true := hE.w 493 (by decide +kernel) rfl
theorem wd_496 {s : State} (hE : EX s) {args : Array Value} : (Cond.before (.instanceMethod yJ0_charAt_5068e) args s) = true := hE.w 496 (by decide +kernel) rfl
theorem wd_497 {s : State} (hE : EX s) {args : Array Value} : (Cond.before (.selects RJ0 yJ0_charAt_5068e yJ0_charAt_5068e) args s) = true := hE.w 497 (by decide +kernel) rfl
theorem wd_498 {s : State} (hE : EX s) {args : Array Value} : (Cond.before (.code yJ0_charAt_5068e cJ0_charAt_5068e 2 (some .char)) args s) = true := hE.w 498 (by decide +kernel) rfl
theorem wd_499 {s : State} (hE : EX s) {args : Array Value} : (Cond.before (.methodLink RJ0 492 yJ0_isLatin1_aae02) args s) = true := hE.w 499 (by decide +kernel) rfl
theorem wd_500 {s : State} (hE : EX s) {args : Array Value} : (Cond.before (.instanceMethod yJ0_isLatin1_aae02) args s) = true := hE.w 500 (by decide +kernel) rfl
theorem wd_501 {s : State} (hE : EX s) {args : Array Value} : (Cond.before (.selects RJ0 yJ0_isLatin1_aae02 yJ0_isLatin1_aae02) args s) = true := hE.w 501 (by decide +kernel) rfl
theorem wd_502 {s : State} (hE : EX s) {args : Array Value} : (Cond.before (.code yJ0_isLatin1_aae02 cJ0_isLatin1_aae02 1 (some .boolean)) args s) = true := hE.w 502 (by decide +kernel) rfl
theorem wd_503 {s : State} (hE : EX s) {args : Array Value} : (Cond.before (.methodLink RJ0 495 yJ1_charAt_3b067) args s) = true := hE.w 503 (by decide +kernel) rfl
theorem wd_504 {s : State} (hE : EX s) {args : Array Value} : (Cond.before (.static yJ1_charAt_3b067) args s) = true := hE.w 504 (by decide +kernel) rfl
theorem wd_505 {s : State} (hE : EX s) {args : Array Value} : (Cond.before (.code yJ1_charAt_3b067 cJ1_charAt_3b067 2 (some .char)) args s) = true := hE.w 505 (by decide +kernel) rfl
theorem wd_506 {s : State} (hE : EX s) {args : Array Value} : (Cond.before (.methodLink RJ1 9 yJ0_checkIndex_df160) args s) = true := hE.w 506 (by decide +kernel) rfl
theorem wd_507 {s : State} (hE : EX s) {args : Array Value} : (Cond.before (.static yJ0_checkIndex_df160) args s) = true := hE.w 507 (by decide +kernel) rfl
theorem wd_508 {s : State} (hE : EX s) {args : Array Value} : (Cond.before (.code yJ0_checkIndex_df160 cJ0_checkIndex_df160 2 none) args s) = true := hE.w 508 (by decide +kernel) rfl
theorem wd_509 {s : State} (hE : EX s) {args : Array Value} : (Cond.before (.fieldLink RJ0 1053 "jdk/internal/util/Preconditions" "SIOOBE_FORMATTER" "Ljava/util/function/BiFunction;") args s) = true := hE.w 509 (by decide +kernel) rfl
theorem wd_511 {s : State} (hE : EX s) {args : Array Value} : (Cond.before (.methodLink RJ0 1059 yJ3_checkIndex_8e157) args s) = true := hE.w 511 (by decide +kernel) rfl
theorem wd_512 {s : State} (hE : EX s) {args : Array Value} : (Cond.before (.static yJ3_checkIndex_8e157) args s) = true := hE.w 512 (by decide +kernel) rfl
theorem wd_513 {s : State} (hE : EX s) {args : Array Value} : (Cond.before (.code yJ3_checkIndex_8e157 cJ3_checkIndex_8e157 3 (some .int)) args s) = true := hE.w 513 (by decide +kernel) rfl
theorem wd_1527 {s : State} (hE : EX s) {args : Array Value} : (Cond.before (.methodLink RX12 174 yJ0_length_8abf5) args s) = true := hE.w 1527 (by decide +kernel) rfl
theorem wd_1528 {s : State} (hE : EX s) {args : Array Value} : (Cond.before (.methodLink RX12 180 yJ0_charAt_5068e) args s) = true := hE.w 1528 (by decide +kernel) rfl
theorem wd_1964 {s : State} (hE : EX s) {args : Array Value} : (Cond.before (.fieldLink RJ0 9 "java/lang/String" "value" "[B") args s) = true := hE.w 1964 (by decide +kernel) rfl
theorem wd_1965 {s : State} (hE : EX s) {args : Array Value} : (Cond.before (.fieldLink RJ0 15 "java/lang/String" "coder" "B") args s) = true := hE.w 1965 (by decide +kernel) rfl
