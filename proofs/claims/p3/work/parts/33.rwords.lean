theorem ly_X12 {s : State} (hE : EX s) {args : Array Value} : ∀ w ∈ wsX120, w.before args s = true := hE.lay [1412, 1414, 1416, 1418, 1420, 1422, 1424, 1426, 1428, 1430, 1432, 1434, 1436, 1438, 1440, 1442, 1444, 1446, 1448, 1450, 1452, 1454, 1456, 1458, 1460, 1462, 1464, 1466, 1468, 1470, 1472] (by decide +kernel) (by decide +kernel)
theorem wd_54 {s : State} (hE : EX s) {args : Array Value} : (Cond.before (.selects RX12 yX12_refuse yX12_refuse) args s) = true := hE.w 54 (by decide +kernel) rfl
theorem wd_55 {s : State} (hE : EX s) {args : Array Value} : (Cond.before (.selects RX12 yX12_copies yX12_copies) args s) = true := hE.w 55 (by decide +kernel) rfl
theorem wd_61 {s : State} (hE : EX s) {args : Array Value} : (Cond.before (.selects RX12 yX12_of yX12_of) args s) = true := hE.w 61 (by decide +kernel) rfl
theorem wd_68 {s : State} (hE : EX s) {args : Array Value} : (Cond.before (.selects RX12 yX12_orderAt yX12_orderAt) args s) = true := hE.w 68 (by decide +kernel) rfl
theorem wd_71 {s : State} (hE : EX s) {args : Array Value} : (Cond.before (.selects RX12 yX12_round yX12_round) args s) = true := hE.w 71 (by decide +kernel) rfl
theorem wd_74 {s : State} (hE : EX s) {args : Array Value} : (Cond.before (.selects RX12 yX12_from yX12_from) args s) = true := hE.w 74 (by decide +kernel) rfl
theorem wd_75 {s : State} (hE : EX s) {args : Array Value} : (Cond.before (.selects RX12 yX12_ofEdge yX12_ofEdge) args s) = true := hE.w 75 (by decide +kernel) rfl
theorem wd_76 {s : State} (hE : EX s) {args : Array Value} : (Cond.before (.selects RX12 yX12_end yX12_end) args s) = true := hE.w 76 (by decide +kernel) rfl
theorem wd_77 {s : State} (hE : EX s) {args : Array Value} : (Cond.before (.selects RX12 yX12_to yX12_to) args s) = true := hE.w 77 (by decide +kernel) rfl
theorem wd_78 {s : State} (hE : EX s) {args : Array Value} : (Cond.before (.selects RX12 yX12_keeps yX12_keeps) args s) = true := hE.w 78 (by decide +kernel) rfl
theorem wd_79 {s : State} (hE : EX s) {args : Array Value} : (Cond.before (.selects RX12 yX12_acted yX12_acted) args s) = true := hE.w 79 (by decide +kernel) rfl
theorem wd_80 {s : State} (hE : EX s) {args : Array Value} : (Cond.before (.selects RX12 yX12_gives yX12_gives) args s) = true := hE.w 80 (by decide +kernel) rfl
theorem wd_84 {s : State} (hE : EX s) {args : Array Value} : (Cond.before (.selects RX12 yX12_takes yX12_takes) args s) = true := hE.w 84 (by decide +kernel) rfl
theorem wd_85 {s : State} (hE : EX s) {args : Array Value} : (Cond.before (.selects RX12 yX12_forms yX12_forms) args s) = true := hE.w 85 (by decide +kernel) rfl
theorem wd_86 {s : State} (hE : EX s) {args : Array Value} : (Cond.before (.selects RX12 yX12_by yX12_by) args s) = true := hE.w 86 (by decide +kernel) rfl
theorem wd_87 {s : State} (hE : EX s) {args : Array Value} : (Cond.before (.selects RX12 yX12_into yX12_into) args s) = true := hE.w 87 (by decide +kernel) rfl
theorem wd_93 {s : State} (hE : EX s) {args : Array Value} : (Cond.before (.selects RX12 yX12_cores yX12_cores) args s) = true := hE.w 93 (by decide +kernel) rfl
theorem wd_126 {s : State} (hE : EX s) {args : Array Value} : (Cond.before (.initialized RX12) args s) = true := hE.w 126 (by decide +kernel) rfl
theorem wd_1381 {s : State} (hE : EX s) {args : Array Value} : (Cond.before (.fieldLink RX12 7 "GluedWordsModel" "all" "[I") args s) = true := hE.w 1381 (by decide +kernel) rfl
theorem wd_1382 {s : State} (hE : EX s) {args : Array Value} : (Cond.before (.fieldLink RX12 67 "GluedWordsModel" "status" "I") args s) = true := hE.w 1382 (by decide +kernel) rfl
theorem wd_1383 {s : State} (hE : EX s) {args : Array Value} : (Cond.before (.fieldLink RX12 257 "GluedWordsModel" "acts" "I") args s) = true := hE.w 1383 (by decide +kernel) rfl
theorem wd_1385 {s : State} (hE : EX s) {args : Array Value} : (Cond.before (.fieldLink RX12 15 "GluedWordsModel" "hand" "[[I") args s) = true := hE.w 1385 (by decide +kernel) rfl
theorem wd_1386 {s : State} (hE : EX s) {args : Array Value} : (Cond.before (.fieldLink RX12 97 "GluedWordsModel" "pinches" "I") args s) = true := hE.w 1386 (by decide +kernel) rfl
theorem wd_1387 {s : State} (hE : EX s) {args : Array Value} : (Cond.before (.fieldLink RX12 18 "GluedWordsModel" "long1" "[I") args s) = true := hE.w 1387 (by decide +kernel) rfl
theorem wd_1388 {s : State} (hE : EX s) {args : Array Value} : (Cond.before (.fieldLink RX12 21 "GluedWordsModel" "long2" "[I") args s) = true := hE.w 1388 (by decide +kernel) rfl
theorem wd_1495 {s : State} (hE : EX s) {args : Array Value} : (Cond.before (.methodLink RX12 238 yX12_refuse) args s) = true := hE.w 1495 (by decide +kernel) rfl
theorem wd_1497 {s : State} (hE : EX s) {args : Array Value} : (Cond.before (.instanceMethod yX12_refuse) args s) = true := hE.w 1497 (by decide +kernel) rfl
theorem wd_1498 {s : State} (hE : EX s) {args : Array Value} : (Cond.before (.code yX12_refuse cX12_refuse 2 (some .int)) args s) = true := hE.w 1498 (by decide +kernel) rfl
theorem wd_1499 {s : State} (hE : EX s) {args : Array Value} : (Cond.before (.methodLink RX12 241 yX12_copies) args s) = true := hE.w 1499 (by decide +kernel) rfl
theorem wd_1501 {s : State} (hE : EX s) {args : Array Value} : (Cond.before (.instanceMethod yX12_copies) args s) = true := hE.w 1501 (by decide +kernel) rfl
theorem wd_1502 {s : State} (hE : EX s) {args : Array Value} : (Cond.before (.code yX12_copies cX12_copies 4 none) args s) = true := hE.w 1502 (by decide +kernel) rfl
theorem wd_1533 {s : State} (hE : EX s) {args : Array Value} : (Cond.before (.methodLink RX12 70 yX12_of) args s) = true := hE.w 1533 (by decide +kernel) rfl
theorem wd_1535 {s : State} (hE : EX s) {args : Array Value} : (Cond.before (.instanceMethod yX12_of) args s) = true := hE.w 1535 (by decide +kernel) rfl
theorem wd_1536 {s : State} (hE : EX s) {args : Array Value} : (Cond.before (.code yX12_of cX12_of 2 (some .int)) args s) = true := hE.w 1536 (by decide +kernel) rfl
theorem wd_1561 {s : State} (hE : EX s) {args : Array Value} : (Cond.before (.methodLink RX12 84 yX12_orderAt) args s) = true := hE.w 1561 (by decide +kernel) rfl
theorem wd_1563 {s : State} (hE : EX s) {args : Array Value} : (Cond.before (.instanceMethod yX12_orderAt) args s) = true := hE.w 1563 (by decide +kernel) rfl
theorem wd_1564 {s : State} (hE : EX s) {args : Array Value} : (Cond.before (.code yX12_orderAt cX12_orderAt 2 (some .int)) args s) = true := hE.w 1564 (by decide +kernel) rfl
theorem wd_1573 {s : State} (hE : EX s) {args : Array Value} : (Cond.before (.methodLink RX12 110 yX12_round) args s) = true := hE.w 1573 (by decide +kernel) rfl
theorem wd_1575 {s : State} (hE : EX s) {args : Array Value} : (Cond.before (.instanceMethod yX12_round) args s) = true := hE.w 1575 (by decide +kernel) rfl
theorem wd_1576 {s : State} (hE : EX s) {args : Array Value} : (Cond.before (.code yX12_round cX12_round 4 (some .int)) args s) = true := hE.w 1576 (by decide +kernel) rfl
theorem wd_1577 {s : State} (hE : EX s) {args : Array Value} : (Cond.before (.methodLink RX12 100 yX12_single) args s) = true := hE.w 1577 (by decide +kernel) rfl
theorem wd_1578 {s : State} (hE : EX s) {args : Array Value} : (Cond.before (.static yX12_single) args s) = true := hE.w 1578 (by decide +kernel) rfl
theorem wd_1579 {s : State} (hE : EX s) {args : Array Value} : (Cond.before (.code yX12_single cX12_single 3 none) args s) = true := hE.w 1579 (by decide +kernel) rfl
theorem wd_1588 {s : State} (hE : EX s) {args : Array Value} : (Cond.before (.methodLink RX12 78 yX12_from) args s) = true := hE.w 1588 (by decide +kernel) rfl
theorem wd_1590 {s : State} (hE : EX s) {args : Array Value} : (Cond.before (.instanceMethod yX12_from) args s) = true := hE.w 1590 (by decide +kernel) rfl
theorem wd_1591 {s : State} (hE : EX s) {args : Array Value} : (Cond.before (.code yX12_from cX12_from 2 (some .int)) args s) = true := hE.w 1591 (by decide +kernel) rfl
theorem wd_1592 {s : State} (hE : EX s) {args : Array Value} : (Cond.before (.methodLink RX12 74 yX12_ofEdge) args s) = true := hE.w 1592 (by decide +kernel) rfl
theorem wd_1594 {s : State} (hE : EX s) {args : Array Value} : (Cond.before (.instanceMethod yX12_ofEdge) args s) = true := hE.w 1594 (by decide +kernel) rfl
theorem wd_1595 {s : State} (hE : EX s) {args : Array Value} : (Cond.before (.code yX12_ofEdge cX12_ofEdge 3 (some .int)) args s) = true := hE.w 1595 (by decide +kernel) rfl
theorem wd_1596 {s : State} (hE : EX s) {args : Array Value} : (Cond.before (.methodLink RX12 117 yX12_end) args s) = true := hE.w 1596 (by decide +kernel) rfl
theorem wd_1598 {s : State} (hE : EX s) {args : Array Value} : (Cond.before (.instanceMethod yX12_end) args s) = true := hE.w 1598 (by decide +kernel) rfl
theorem wd_1599 {s : State} (hE : EX s) {args : Array Value} : (Cond.before (.code yX12_end cX12_end 2 (some .int)) args s) = true := hE.w 1599 (by decide +kernel) rfl
theorem wd_1600 {s : State} (hE : EX s) {args : Array Value} : (Cond.before (.methodLink RX12 87 yX12_step) args s) = true := hE.w 1600 (by decide +kernel) rfl
theorem wd_1601 {s : State} (hE : EX s) {args : Array Value} : (Cond.before (.static yX12_step) args s) = true := hE.w 1601 (by decide +kernel) rfl
theorem wd_1602 {s : State} (hE : EX s) {args : Array Value} : (Cond.before (.code yX12_step cX12_step 2 (some .int)) args s) = true := hE.w 1602 (by decide +kernel) rfl
theorem wd_1603 {s : State} (hE : EX s) {args : Array Value} : (Cond.before (.methodLink RX12 91 yX12_to) args s) = true := hE.w 1603 (by decide +kernel) rfl
theorem wd_1605 {s : State} (hE : EX s) {args : Array Value} : (Cond.before (.instanceMethod yX12_to) args s) = true := hE.w 1605 (by decide +kernel) rfl
theorem wd_1606 {s : State} (hE : EX s) {args : Array Value} : (Cond.before (.code yX12_to cX12_to 2 (some .int)) args s) = true := hE.w 1606 (by decide +kernel) rfl
theorem wd_1607 {s : State} (hE : EX s) {args : Array Value} : (Cond.before (.methodLink RX12 104 yX12_goes) args s) = true := hE.w 1607 (by decide +kernel) rfl
theorem wd_1608 {s : State} (hE : EX s) {args : Array Value} : (Cond.before (.static yX12_goes) args s) = true := hE.w 1608 (by decide +kernel) rfl
theorem wd_1609 {s : State} (hE : EX s) {args : Array Value} : (Cond.before (.code yX12_goes cX12_goes 3 none) args s) = true := hE.w 1609 (by decide +kernel) rfl
theorem wd_1610 {s : State} (hE : EX s) {args : Array Value} : (Cond.before (.methodLink RX12 223 yX12_keeps) args s) = true := hE.w 1610 (by decide +kernel) rfl
theorem wd_1612 {s : State} (hE : EX s) {args : Array Value} : (Cond.before (.instanceMethod yX12_keeps) args s) = true := hE.w 1612 (by decide +kernel) rfl
theorem wd_1613 {s : State} (hE : EX s) {args : Array Value} : (Cond.before (.code yX12_keeps cX12_keeps 3 none) args s) = true := hE.w 1613 (by decide +kernel) rfl
theorem wd_1614 {s : State} (hE : EX s) {args : Array Value} : (Cond.before (.methodLink RX12 248 yX12_acted) args s) = true := hE.w 1614 (by decide +kernel) rfl
theorem wd_1616 {s : State} (hE : EX s) {args : Array Value} : (Cond.before (.instanceMethod yX12_acted) args s) = true := hE.w 1616 (by decide +kernel) rfl
theorem wd_1617 {s : State} (hE : EX s) {args : Array Value} : (Cond.before (.code yX12_acted cX12_acted 3 none) args s) = true := hE.w 1617 (by decide +kernel) rfl
theorem wd_1618 {s : State} (hE : EX s) {args : Array Value} : (Cond.before (.methodLink RX12 251 yX12_gives) args s) = true := hE.w 1618 (by decide +kernel) rfl
theorem wd_1620 {s : State} (hE : EX s) {args : Array Value} : (Cond.before (.instanceMethod yX12_gives) args s) = true := hE.w 1620 (by decide +kernel) rfl
theorem wd_1621 {s : State} (hE : EX s) {args : Array Value} : (Cond.before (.code yX12_gives cX12_gives 2 (some .int)) args s) = true := hE.w 1621 (by decide +kernel) rfl
theorem wd_1654 {s : State} (hE : EX s) {args : Array Value} : (Cond.before (.methodLink RX12 127 yX12_takes) args s) = true := hE.w 1654 (by decide +kernel) rfl
theorem wd_1656 {s : State} (hE : EX s) {args : Array Value} : (Cond.before (.instanceMethod yX12_takes) args s) = true := hE.w 1656 (by decide +kernel) rfl
theorem wd_1657 {s : State} (hE : EX s) {args : Array Value} : (Cond.before (.code yX12_takes cX12_takes 4 none) args s) = true := hE.w 1657 (by decide +kernel) rfl
theorem wd_1658 {s : State} (hE : EX s) {args : Array Value} : (Cond.before (.methodLink RX12 124 yX12_forms) args s) = true := hE.w 1658 (by decide +kernel) rfl
theorem wd_1660 {s : State} (hE : EX s) {args : Array Value} : (Cond.before (.instanceMethod yX12_forms) args s) = true := hE.w 1660 (by decide +kernel) rfl
theorem wd_1661 {s : State} (hE : EX s) {args : Array Value} : (Cond.before (.code yX12_forms cX12_forms 9 none) args s) = true := hE.w 1661 (by decide +kernel) rfl
theorem wd_1662 {s : State} (hE : EX s) {args : Array Value} : (Cond.before (.methodLink RX12 94 yX12_number) args s) = true := hE.w 1662 (by decide +kernel) rfl
theorem wd_1663 {s : State} (hE : EX s) {args : Array Value} : (Cond.before (.static yX12_number) args s) = true := hE.w 1663 (by decide +kernel) rfl
theorem wd_1664 {s : State} (hE : EX s) {args : Array Value} : (Cond.before (.code yX12_number cX12_number 2 (some .int)) args s) = true := hE.w 1664 (by decide +kernel) rfl
theorem wd_1665 {s : State} (hE : EX s) {args : Array Value} : (Cond.before (.methodLink RX12 81 yX12_by) args s) = true := hE.w 1665 (by decide +kernel) rfl
theorem wd_1667 {s : State} (hE : EX s) {args : Array Value} : (Cond.before (.instanceMethod yX12_by) args s) = true := hE.w 1667 (by decide +kernel) rfl
theorem wd_1668 {s : State} (hE : EX s) {args : Array Value} : (Cond.before (.code yX12_by cX12_by 2 (some .int)) args s) = true := hE.w 1668 (by decide +kernel) rfl
theorem wd_1669 {s : State} (hE : EX s) {args : Array Value} : (Cond.before (.methodLink RX12 107 yX12_into) args s) = true := hE.w 1669 (by decide +kernel) rfl
theorem wd_1671 {s : State} (hE : EX s) {args : Array Value} : (Cond.before (.instanceMethod yX12_into) args s) = true := hE.w 1671 (by decide +kernel) rfl
theorem wd_1672 {s : State} (hE : EX s) {args : Array Value} : (Cond.before (.code yX12_into cX12_into 2 (some .int)) args s) = true := hE.w 1672 (by decide +kernel) rfl
theorem wd_1704 {s : State} (hE : EX s) {args : Array Value} : (Cond.before (.methodLink RX12 113 yX12_lays) args s) = true := hE.w 1704 (by decide +kernel) rfl
theorem wd_1705 {s : State} (hE : EX s) {args : Array Value} : (Cond.before (.static yX12_lays) args s) = true := hE.w 1705 (by decide +kernel) rfl
theorem wd_1706 {s : State} (hE : EX s) {args : Array Value} : (Cond.before (.code yX12_lays cX12_lays 3 none) args s) = true := hE.w 1706 (by decide +kernel) rfl
theorem wd_1707 {s : State} (hE : EX s) {args : Array Value} : (Cond.before (.methodLink RX12 121 yX12_last) args s) = true := hE.w 1707 (by decide +kernel) rfl
theorem wd_1708 {s : State} (hE : EX s) {args : Array Value} : (Cond.before (.static yX12_last) args s) = true := hE.w 1708 (by decide +kernel) rfl
theorem wd_1709 {s : State} (hE : EX s) {args : Array Value} : (Cond.before (.code yX12_last cX12_last 1 (some .int)) args s) = true := hE.w 1709 (by decide +kernel) rfl
theorem wd_1734 {s : State} (hE : EX s) {args : Array Value} : (Cond.before (.methodLink RX12 131 yX12_cores) args s) = true := hE.w 1734 (by decide +kernel) rfl
theorem wd_1736 {s : State} (hE : EX s) {args : Array Value} : (Cond.before (.instanceMethod yX12_cores) args s) = true := hE.w 1736 (by decide +kernel) rfl
theorem wd_1737 {s : State} (hE : EX s) {args : Array Value} : (Cond.before (.code yX12_cores cX12_cores 6 none) args s) = true := hE.w 1737 (by decide +kernel) rfl
