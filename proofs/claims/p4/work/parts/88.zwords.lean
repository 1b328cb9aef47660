theorem wd_135 {s : State} (hE : EX s) {args : Array Value} : (Cond.before (.classLink RL 7 RX11) args s) = true := hE.w 135 (by decide +kernel) rfl
theorem wd_136 {s : State} (hE : EX s) {args : Array Value} : (Cond.before (.instantiable RX11 19) args s) = true := hE.w 136 (by decide +kernel) rfl
theorem wd_137 {s : State} (hE : EX s) {args : Array Value} : (Cond.before (.methodLink RL 9 yX11_init) args s) = true := hE.w 137 (by decide +kernel) rfl
theorem wd_138 {s : State} (hE : EX s) {args : Array Value} : (Cond.before (.instanceMethod yX11_init) args s) = true := hE.w 138 (by decide +kernel) rfl
theorem wd_139 {s : State} (hE : EX s) {args : Array Value} : (Cond.before (.code yX11_init cX11_init 2 none) args s) = true := hE.w 139 (by decide +kernel) rfl
theorem wd_1369 {s : State} (hE : EX s) {args : Array Value} : (Cond.before (.classLink RL 10 RX12) args s) = true := hE.w 1369 (by decide +kernel) rfl
theorem wd_1370 {s : State} (hE : EX s) {args : Array Value} : (Cond.before (.instantiable RX12 31) args s) = true := hE.w 1370 (by decide +kernel) rfl
theorem wd_1371 {s : State} (hE : EX s) {args : Array Value} : (Cond.before (.methodLink RL 12 yX12_init) args s) = true := hE.w 1371 (by decide +kernel) rfl
theorem wd_1372 {s : State} (hE : EX s) {args : Array Value} : (Cond.before (.instanceMethod yX12_init) args s) = true := hE.w 1372 (by decide +kernel) rfl
theorem wd_1373 {s : State} (hE : EX s) {args : Array Value} : (Cond.before (.code yX12_init cX12_init 1 none) args s) = true := hE.w 1373 (by decide +kernel) rfl
theorem wd_1374 {s : State} (hE : EX s) {args : Array Value} : (Cond.before (.methodLink RX12 1 objectInit) args s) = true := hE.w 1374 (by decide +kernel) rfl
theorem wd_1375 {s : State} (hE : EX s) {args : Array Value} : (Cond.before (.classLink RX12 13 "[[I") args s) = true := hE.w 1375 (by decide +kernel) rfl
theorem wd_1377 {s : State} (hE : EX s) {args : Array Value} : (Cond.before (.classLink RX12 54 "[[[J") args s) = true := hE.w 1377 (by decide +kernel) rfl
theorem wd_1380 {s : State} (hE : EX s) {args : Array Value} : (Cond.before (.constant RX12 59 (60840)) args s) = true := hE.w 1380 (by decide +kernel) rfl
theorem wd_1475 {s : State} (hE : EX s) {args : Array Value} : (Cond.before (.arrayClass .boolean) args s) = true := hE.w 1475 (by decide +kernel) rfl
