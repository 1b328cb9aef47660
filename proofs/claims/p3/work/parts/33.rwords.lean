theorem ly_X12 {s : State} (hE : EX s) {args : Array Value} : ∀ w ∈ wsX120, w.before args s = true := hE.lay [1412, 1414, 1416, 1418, 1420, 1422, 1424, 1426, 1428, 1430, 1432, 1434, 1436, 1438, 1440, 1442, 1444, 1446, 1448, 1450, 1452, 1454, 1456, 1458, 1460, 1462, 1464, 1466, 1468, 1470, 1472] (by decide +kernel) (by decide +kernel)
theorem wd_61 {s : State} (hE : EX s) {args : Array Value} : (Cond.before (.selects RX12 yX12_of yX12_of) args s) = true := hE.w 61 (by decide +kernel) rfl
theorem wd_68 {s : State} (hE : EX s) {args : Array Value} : (Cond.before (.selects RX12 yX12_orderAt yX12_orderAt) args s) = true := hE.w 68 (by decide +kernel) rfl
theorem wd_74 {s : State} (hE : EX s) {args : Array Value} : (Cond.before (.selects RX12 yX12_from yX12_from) args s) = true := hE.w 74 (by decide +kernel) rfl
theorem wd_75 {s : State} (hE : EX s) {args : Array Value} : (Cond.before (.selects RX12 yX12_ofEdge yX12_ofEdge) args s) = true := hE.w 75 (by decide +kernel) rfl
theorem wd_77 {s : State} (hE : EX s) {args : Array Value} : (Cond.before (.selects RX12 yX12_to yX12_to) args s) = true := hE.w 77 (by decide +kernel) rfl
theorem wd_86 {s : State} (hE : EX s) {args : Array Value} : (Cond.before (.selects RX12 yX12_by yX12_by) args s) = true := hE.w 86 (by decide +kernel) rfl
theorem wd_126 {s : State} (hE : EX s) {args : Array Value} : (Cond.before (.initialized RX12) args s) = true := hE.w 126 (by decide +kernel) rfl
theorem wd_1381 {s : State} (hE : EX s) {args : Array Value} : (Cond.before (.fieldLink RX12 7 "GluedWordsModel" "all" "[I") args s) = true := hE.w 1381 (by decide +kernel) rfl
theorem wd_1382 {s : State} (hE : EX s) {args : Array Value} : (Cond.before (.fieldLink RX12 67 "GluedWordsModel" "status" "I") args s) = true := hE.w 1382 (by decide +kernel) rfl
theorem wd_1533 {s : State} (hE : EX s) {args : Array Value} : (Cond.before (.methodLink RX12 70 yX12_of) args s) = true := hE.w 1533 (by decide +kernel) rfl
theorem wd_1535 {s : State} (hE : EX s) {args : Array Value} : (Cond.before (.instanceMethod yX12_of) args s) = true := hE.w 1535 (by decide +kernel) rfl
theorem wd_1536 {s : State} (hE : EX s) {args : Array Value} : (Cond.before (.code yX12_of cX12_of 2 (some .int)) args s) = true := hE.w 1536 (by decide +kernel) rfl
theorem wd_1561 {s : State} (hE : EX s) {args : Array Value} : (Cond.before (.methodLink RX12 84 yX12_orderAt) args s) = true := hE.w 1561 (by decide +kernel) rfl
theorem wd_1563 {s : State} (hE : EX s) {args : Array Value} : (Cond.before (.instanceMethod yX12_orderAt) args s) = true := hE.w 1563 (by decide +kernel) rfl
theorem wd_1564 {s : State} (hE : EX s) {args : Array Value} : (Cond.before (.code yX12_orderAt cX12_orderAt 2 (some .int)) args s) = true := hE.w 1564 (by decide +kernel) rfl
theorem wd_1588 {s : State} (hE : EX s) {args : Array Value} : (Cond.before (.methodLink RX12 78 yX12_from) args s) = true := hE.w 1588 (by decide +kernel) rfl
theorem wd_1590 {s : State} (hE : EX s) {args : Array Value} : (Cond.before (.instanceMethod yX12_from) args s) = true := hE.w 1590 (by decide +kernel) rfl
theorem wd_1591 {s : State} (hE : EX s) {args : Array Value} : (Cond.before (.code yX12_from cX12_from 2 (some .int)) args s) = true := hE.w 1591 (by decide +kernel) rfl
theorem wd_1592 {s : State} (hE : EX s) {args : Array Value} : (Cond.before (.methodLink RX12 74 yX12_ofEdge) args s) = true := hE.w 1592 (by decide +kernel) rfl
theorem wd_1594 {s : State} (hE : EX s) {args : Array Value} : (Cond.before (.instanceMethod yX12_ofEdge) args s) = true := hE.w 1594 (by decide +kernel) rfl
theorem wd_1595 {s : State} (hE : EX s) {args : Array Value} : (Cond.before (.code yX12_ofEdge cX12_ofEdge 3 (some .int)) args s) = true := hE.w 1595 (by decide +kernel) rfl
theorem wd_1600 {s : State} (hE : EX s) {args : Array Value} : (Cond.before (.methodLink RX12 87 yX12_step) args s) = true := hE.w 1600 (by decide +kernel) rfl
theorem wd_1601 {s : State} (hE : EX s) {args : Array Value} : (Cond.before (.static yX12_step) args s) = true := hE.w 1601 (by decide +kernel) rfl
theorem wd_1602 {s : State} (hE : EX s) {args : Array Value} : (Cond.before (.code yX12_step cX12_step 2 (some .int)) args s) = true := hE.w 1602 (by decide +kernel) rfl
theorem wd_1603 {s : State} (hE : EX s) {args : Array Value} : (Cond.before (.methodLink RX12 91 yX12_to) args s) = true := hE.w 1603 (by decide +kernel) rfl
theorem wd_1605 {s : State} (hE : EX s) {args : Array Value} : (Cond.before (.instanceMethod yX12_to) args s) = true := hE.w 1605 (by decide +kernel) rfl
theorem wd_1606 {s : State} (hE : EX s) {args : Array Value} : (Cond.before (.code yX12_to cX12_to 2 (some .int)) args s) = true := hE.w 1606 (by decide +kernel) rfl
theorem wd_1665 {s : State} (hE : EX s) {args : Array Value} : (Cond.before (.methodLink RX12 81 yX12_by) args s) = true := hE.w 1665 (by decide +kernel) rfl
theorem wd_1667 {s : State} (hE : EX s) {args : Array Value} : (Cond.before (.instanceMethod yX12_by) args s) = true := hE.w 1667 (by decide +kernel) rfl
theorem wd_1668 {s : State} (hE : EX s) {args : Array Value} : (Cond.before (.code yX12_by cX12_by 2 (some .int)) args s) = true := hE.w 1668 (by decide +kernel) rfl
