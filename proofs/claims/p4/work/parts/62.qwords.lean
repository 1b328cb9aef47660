theorem wd_0 {s : State} (hE : EX s) {args : Array Value} : (Cond.before (.selects RX11 yX11_feedFour yX11_feedFour) args s) = true := hE.w 0 (by decide +kernel) rfl
theorem wd_425 {s : State} (hE : EX s) {args : Array Value} : (Cond.before (.methodLink RX11 106 yX11_feedFour) args s) = true := hE.w 425 (by decide +kernel) rfl
theorem wd_427 {s : State} (hE : EX s) {args : Array Value} : (Cond.before (.instanceMethod yX11_feedFour) args s) = true := hE.w 427 (by decide +kernel) rfl
theorem wd_428 {s : State} (hE : EX s) {args : Array Value} : (Cond.before (.code yX11_feedFour cX11_feedFour 3 none) args s) = true := hE.w 428 (by decide +kernel) rfl
theorem wd_753 {s : State} (hE : EX s) {args : Array Value} : (Cond.before (.methodLink RX11 136 yX5_tellFault) args s) = true := hE.w 753 (by decide +kernel) rfl
theorem wd_754 {s : State} (hE : EX s) {args : Array Value} : (Cond.before (.instanceMethod yX5_tellFault) args s) = true := hE.w 754 (by decide +kernel) rfl
theorem wd_755 {s : State} (hE : EX s) {args : Array Value} : (Cond.before (.selects RX5 yX5_tellFault yX5_tellFault) args s) = true := hE.w 755 (by decide +kernel) rfl
theorem wd_756 {s : State} (hE : EX s) {args : Array Value} : (Cond.before (.code yX5_tellFault cX5_tellFault 2 (some .int)) args s) = true := hE.w 756 (by decide +kernel) rfl
