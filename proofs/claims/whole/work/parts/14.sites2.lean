set_option maxRecDepth 100000 in
theorem seX9_statement : Cond.selects mX9_statement.1.cls mX9_statement.1 mX9_statement.1 ∈ GW := gw_of 73 rfl rfl
abbrev mX9_mayBegin : MI := (yX9_mayBegin, cX9_mayBegin, 1, (some .boolean))
set_option maxRecDepth 100000 in
theorem sbX9_mayBegin : SB mX9_mayBegin 0 := ⟨gw_of 150 rfl rfl, gw_of 1461 rfl rfl, ⟨by decide +kernel, by decide +kernel, by decide +kernel⟩, by decide⟩
set_option maxRecDepth 100000 in
theorem inX9_mayBegin : Cond.instanceMethod mX9_mayBegin.1 ∈ GW := gw_of 1460 rfl rfl
set_option maxRecDepth 100000 in
theorem seX9_mayBegin : Cond.selects mX9_mayBegin.1.cls mX9_mayBegin.1 mX9_mayBegin.1 ∈ GW := gw_of 74 rfl rfl
abbrev mX9_named : MI := (yX9_named, cX9_named, 3, (some .int))
set_option maxRecDepth 100000 in
theorem sbX9_named : SB mX9_named 0 := ⟨gw_of 150 rfl rfl, gw_of 1465 rfl rfl, ⟨by decide +kernel, by decide +kernel, by decide +kernel⟩, by decide⟩
set_option maxRecDepth 100000 in
theorem inX9_named : Cond.instanceMethod mX9_named.1 ∈ GW := gw_of 1464 rfl rfl
set_option maxRecDepth 100000 in
theorem seX9_named : Cond.selects mX9_named.1.cls mX9_named.1 mX9_named.1 ∈ GW := gw_of 75 rfl rfl
abbrev mX9_isWord : MI := (yX9_isWord, cX9_isWord, 3, (some .boolean))
set_option maxRecDepth 100000 in
theorem sbX9_isWord : SB mX9_isWord 1 := ⟨gw_of 150 rfl rfl, gw_of 1470 rfl rfl, ⟨by decide +kernel, by decide +kernel, by decide +kernel⟩, by decide⟩
set_option maxRecDepth 100000 in
theorem inX9_isWord : Cond.instanceMethod mX9_isWord.1 ∈ GW := gw_of 1469 rfl rfl
set_option maxRecDepth 100000 in
theorem seX9_isWord : Cond.selects mX9_isWord.1.cls mX9_isWord.1 mX9_isWord.1 ∈ GW := gw_of 76 rfl rfl
abbrev mX9_assigned : MI := (yX9_assigned, cX9_assigned, 5, none)
set_option maxRecDepth 100000 in
theorem sbX9_assigned : SB mX9_assigned 2 := ⟨gw_of 150 rfl rfl, gw_of 1477 rfl rfl, ⟨by decide +kernel, by decide +kernel, by decide +kernel⟩, by decide⟩
set_option maxRecDepth 100000 in
theorem inX9_assigned : Cond.instanceMethod mX9_assigned.1 ∈ GW := gw_of 1476 rfl rfl
set_option maxRecDepth 100000 in
theorem seX9_assigned : Cond.selects mX9_assigned.1.cls mX9_assigned.1 mX9_assigned.1 ∈ GW := gw_of 77 rfl rfl
abbrev mX9_operand : MI := (yX9_operand, cX9_operand, 2, none)
set_option maxRecDepth 100000 in
theorem sbX9_operand : SB mX9_operand 0 := ⟨gw_of 150 rfl rfl, gw_of 1481 rfl rfl, ⟨by decide +kernel, by decide +kernel, by decide +kernel⟩, by decide⟩
set_option maxRecDepth 100000 in
theorem inX9_operand : Cond.instanceMethod mX9_operand.1 ∈ GW := gw_of 1480 rfl rfl
set_option maxRecDepth 100000 in
theorem seX9_operand : Cond.selects mX9_operand.1.cls mX9_operand.1 mX9_operand.1 ∈ GW := gw_of 78 rfl rfl
abbrev mX9_summed : MI := (yX9_summed, cX9_summed, 9, none)
set_option maxRecDepth 100000 in
theorem sbX9_summed : SB mX9_summed 6 := ⟨gw_of 150 rfl rfl, gw_of 1485 rfl rfl, ⟨by decide +kernel, by decide +kernel, by decide +kernel⟩, by decide⟩
set_option maxRecDepth 100000 in
theorem inX9_summed : Cond.instanceMethod mX9_summed.1 ∈ GW := gw_of 1484 rfl rfl
set_option maxRecDepth 100000 in
theorem seX9_summed : Cond.selects mX9_summed.1.cls mX9_summed.1 mX9_summed.1 ∈ GW := gw_of 79 rfl rfl
abbrev mX9_first : MI := (yX9_first, cX9_first, 2, none)
set_option maxRecDepth 100000 in
theorem sbX9_first : SB mX9_first 1 := ⟨gw_of 150 rfl rfl, gw_of 1489 rfl rfl, ⟨by decide +kernel, by decide +kernel, by decide +kernel⟩, by decide⟩
set_option maxRecDepth 100000 in
theorem inX9_first : Cond.instanceMethod mX9_first.1 ∈ GW := gw_of 1488 rfl rfl
set_option maxRecDepth 100000 in
theorem seX9_first : Cond.selects mX9_first.1.cls mX9_first.1 mX9_first.1 ∈ GW := gw_of 80 rfl rfl
abbrev mX9_isOp : MI := (yX9_isOp, cX9_isOp, 1, (some .boolean))
set_option maxRecDepth 100000 in
theorem sbX9_isOp : SB mX9_isOp 0 := ⟨gw_of 150 rfl rfl, gw_of 1493 rfl rfl, ⟨by decide +kernel, by decide +kernel, by decide +kernel⟩, by decide⟩
set_option maxRecDepth 100000 in
theorem inX9_isOp : Cond.instanceMethod mX9_isOp.1 ∈ GW := gw_of 1492 rfl rfl
set_option maxRecDepth 100000 in
theorem seX9_isOp : Cond.selects mX9_isOp.1.cls mX9_isOp.1 mX9_isOp.1 ∈ GW := gw_of 81 rfl rfl
abbrev mX9_put : MI := (yX9_put, cX9_put, 3, none)
set_option maxRecDepth 100000 in
theorem sbX9_put : SB mX9_put 2 := ⟨gw_of 150 rfl rfl, gw_of 1497 rfl rfl, ⟨by decide +kernel, by decide +kernel, by decide +kernel⟩, by decide⟩
set_option maxRecDepth 100000 in
theorem inX9_put : Cond.instanceMethod mX9_put.1 ∈ GW := gw_of 1496 rfl rfl
set_option maxRecDepth 100000 in
theorem seX9_put : Cond.selects mX9_put.1.cls mX9_put.1 mX9_put.1 ∈ GW := gw_of 82 rfl rfl
abbrev mX9_second : MI := (yX9_second, cX9_second, 2, none)
set_option maxRecDepth 100000 in
theorem sbX9_second : SB mX9_second 1 := ⟨gw_of 150 rfl rfl, gw_of 1501 rfl rfl, ⟨by decide +kernel, by decide +kernel, by decide +kernel⟩, by decide⟩
set_option maxRecDepth 100000 in
theorem inX9_second : Cond.instanceMethod mX9_second.1 ∈ GW := gw_of 1500 rfl rfl
set_option maxRecDepth 100000 in
theorem seX9_second : Cond.selects mX9_second.1.cls mX9_second.1 mX9_second.1 ∈ GW := gw_of 83 rfl rfl
abbrev mX9_tell : MI := (yX9_tell, cX9_tell, 2, none)
set_option maxRecDepth 100000 in
theorem sbX9_tell : SB mX9_tell 1 := ⟨gw_of 150 rfl rfl, gw_of 1505 rfl rfl, ⟨by decide +kernel, by decide +kernel, by decide +kernel⟩, by decide⟩
set_option maxRecDepth 100000 in
theorem inX9_tell : Cond.instanceMethod mX9_tell.1 ∈ GW := gw_of 1504 rfl rfl
set_option maxRecDepth 100000 in
theorem seX9_tell : Cond.selects mX9_tell.1.cls mX9_tell.1 mX9_tell.1 ∈ GW := gw_of 84 rfl rfl
abbrev mX9_go : MI := (yX9_go, cX9_go, 2, none)
set_option maxRecDepth 100000 in
theorem sbX9_go : SB mX9_go 1 := ⟨gw_of 150 rfl rfl, gw_of 1509 rfl rfl, ⟨by decide +kernel, by decide +kernel, by decide +kernel⟩, by decide⟩
set_option maxRecDepth 100000 in
theorem inX9_go : Cond.instanceMethod mX9_go.1 ∈ GW := gw_of 1508 rfl rfl
set_option maxRecDepth 100000 in
theorem seX9_go : Cond.selects mX9_go.1.cls mX9_go.1 mX9_go.1 ∈ GW := gw_of 85 rfl rfl
abbrev mX9_block : MI := (yX9_block, cX9_block, 2, (some .int))
set_option maxRecDepth 100000 in
theorem sbX9_block : SB mX9_block 0 := ⟨gw_of 150 rfl rfl, gw_of 1513 rfl rfl, ⟨by decide +kernel, by decide +kernel, by decide +kernel⟩, by decide⟩
set_option maxRecDepth 100000 in
theorem inX9_block : Cond.instanceMethod mX9_block.1 ∈ GW := gw_of 1512 rfl rfl
set_option maxRecDepth 100000 in
theorem seX9_block : Cond.selects mX9_block.1.cls mX9_block.1 mX9_block.1 ∈ GW := gw_of 86 rfl rfl
abbrev mX9_test : MI := (yX9_test, cX9_test, 2, none)
set_option maxRecDepth 100000 in
theorem sbX9_test : SB mX9_test 1 := ⟨gw_of 150 rfl rfl, gw_of 1517 rfl rfl, ⟨by decide +kernel, by decide +kernel, by decide +kernel⟩, by decide⟩
set_option maxRecDepth 100000 in
theorem inX9_test : Cond.instanceMethod mX9_test.1 ∈ GW := gw_of 1516 rfl rfl
set_option maxRecDepth 100000 in
theorem seX9_test : Cond.selects mX9_test.1.cls mX9_test.1 mX9_test.1 ∈ GW := gw_of 87 rfl rfl
abbrev mX9_leave : MI := (yX9_leave, cX9_leave, 2, none)
set_option maxRecDepth 100000 in
theorem sbX9_leave : SB mX9_leave 1 := ⟨gw_of 150 rfl rfl, gw_of 1521 rfl rfl, ⟨by decide +kernel, by decide +kernel, by decide +kernel⟩, by decide⟩
set_option maxRecDepth 100000 in
theorem inX9_leave : Cond.instanceMethod mX9_leave.1 ∈ GW := gw_of 1520 rfl rfl
set_option maxRecDepth 100000 in
theorem seX9_leave : Cond.selects mX9_leave.1.cls mX9_leave.1 mX9_leave.1 ∈ GW := gw_of 88 rfl rfl
abbrev mX9_ends : MI := (yX9_ends, cX9_ends, 5, none)
set_option maxRecDepth 100000 in
theorem sbX9_ends : SB mX9_ends 0 := ⟨gw_of 150 rfl rfl, gw_of 1525 rfl rfl, ⟨by decide +kernel, by decide +kernel, by decide +kernel⟩, by decide⟩
set_option maxRecDepth 100000 in
theorem inX9_ends : Cond.instanceMethod mX9_ends.1 ∈ GW := gw_of 1524 rfl rfl
set_option maxRecDepth 100000 in
theorem seX9_ends : Cond.selects mX9_ends.1.cls mX9_ends.1 mX9_ends.1 ∈ GW := gw_of 89 rfl rfl
abbrev mX9_fault : MI := (yX9_fault, cX9_fault, 3, none)
set_option maxRecDepth 100000 in
theorem sbX9_fault : SB mX9_fault 2 := ⟨gw_of 150 rfl rfl, gw_of 1529 rfl rfl, ⟨by decide +kernel, by decide +kernel, by decide +kernel⟩, by decide⟩
set_option maxRecDepth 100000 in
theorem inX9_fault : Cond.instanceMethod mX9_fault.1 ∈ GW := gw_of 1528 rfl rfl
set_option maxRecDepth 100000 in
theorem seX9_fault : Cond.selects mX9_fault.1.cls mX9_fault.1 mX9_fault.1 ∈ GW := gw_of 90 rfl rfl
abbrev mX9_lastNode : MI := (yX9_lastNode, cX9_lastNode, 2, (some .int))
set_option maxRecDepth 100000 in
theorem sbX9_lastNode : SB mX9_lastNode 1 := ⟨gw_of 150 rfl rfl, gw_of 1533 rfl rfl, ⟨by decide +kernel, by decide +kernel, by decide +kernel⟩, by decide⟩
set_option maxRecDepth 100000 in
theorem inX9_lastNode : Cond.instanceMethod mX9_lastNode.1 ∈ GW := gw_of 1532 rfl rfl
set_option maxRecDepth 100000 in
theorem seX9_lastNode : Cond.selects mX9_lastNode.1.cls mX9_lastNode.1 mX9_lastNode.1 ∈ GW := gw_of 91 rfl rfl
abbrev mX9_mark : MI := (yX9_mark, cX9_mark, 2, (some .boolean))
set_option maxRecDepth 100000 in
theorem sbX9_mark : SB mX9_mark 1 := ⟨gw_of 150 rfl rfl, gw_of 1537 rfl rfl, ⟨by decide +kernel, by decide +kernel, by decide +kernel⟩, by decide⟩
set_option maxRecDepth 100000 in
theorem inX9_mark : Cond.instanceMethod mX9_mark.1 ∈ GW := gw_of 1536 rfl rfl
set_option maxRecDepth 100000 in
theorem seX9_mark : Cond.selects mX9_mark.1.cls mX9_mark.1 mX9_mark.1 ∈ GW := gw_of 92 rfl rfl
abbrev mX9_lead : MI := (yX9_lead, cX9_lead, 4, none)
set_option maxRecDepth 100000 in
theorem sbX9_lead : SB mX9_lead 0 := ⟨gw_of 150 rfl rfl, gw_of 1541 rfl rfl, ⟨by decide +kernel, by decide +kernel, by decide +kernel⟩, by decide⟩
set_option maxRecDepth 100000 in
theorem inX9_lead : Cond.instanceMethod mX9_lead.1 ∈ GW := gw_of 1540 rfl rfl
set_option maxRecDepth 100000 in
theorem seX9_lead : Cond.selects mX9_lead.1.cls mX9_lead.1 mX9_lead.1 ∈ GW := gw_of 93 rfl rfl
abbrev mX9_waysTo : MI := (yX9_waysTo, cX9_waysTo, 5, (some .int))
set_option maxRecDepth 100000 in
theorem sbX9_waysTo : SB mX9_waysTo 1 := ⟨gw_of 150 rfl rfl, gw_of 1545 rfl rfl, ⟨by decide +kernel, by decide +kernel, by decide +kernel⟩, by decide⟩
set_option maxRecDepth 100000 in
theorem inX9_waysTo : Cond.instanceMethod mX9_waysTo.1 ∈ GW := gw_of 1544 rfl rfl
set_option maxRecDepth 100000 in
theorem seX9_waysTo : Cond.selects mX9_waysTo.1.cls mX9_waysTo.1 mX9_waysTo.1 ∈ GW := gw_of 94 rfl rfl
abbrev mX9_through : MI := (yX9_through, cX9_through, 4, (some .int))
set_option maxRecDepth 100000 in
theorem sbX9_through : SB mX9_through 1 := ⟨gw_of 150 rfl rfl, gw_of 1549 rfl rfl, ⟨by decide +kernel, by decide +kernel, by decide +kernel⟩, by decide⟩
set_option maxRecDepth 100000 in
theorem inX9_through : Cond.instanceMethod mX9_through.1 ∈ GW := gw_of 1548 rfl rfl
set_option maxRecDepth 100000 in
theorem seX9_through : Cond.selects mX9_through.1.cls mX9_through.1 mX9_through.1 ∈ GW := gw_of 95 rfl rfl
abbrev mX9_settle : MI := (yX9_settle, cX9_settle, 5, none)
set_option maxRecDepth 100000 in
theorem sbX9_settle : SB mX9_settle 1 := ⟨gw_of 150 rfl rfl, gw_of 1553 rfl rfl, ⟨by decide +kernel, by decide +kernel, by decide +kernel⟩, by decide⟩
set_option maxRecDepth 100000 in
theorem inX9_settle : Cond.instanceMethod mX9_settle.1 ∈ GW := gw_of 1552 rfl rfl
set_option maxRecDepth 100000 in
theorem seX9_settle : Cond.selects mX9_settle.1.cls mX9_settle.1 mX9_settle.1 ∈ GW := gw_of 96 rfl rfl
abbrev mX9_base : MI := (yX9_base, cX9_base, 3, (some .int))
set_option maxRecDepth 100000 in
theorem sbX9_base : SB mX9_base 2 := ⟨gw_of 150 rfl rfl, gw_of 1557 rfl rfl, ⟨by decide +kernel, by decide +kernel, by decide +kernel⟩, by decide⟩
set_option maxRecDepth 100000 in
theorem inX9_base : Cond.instanceMethod mX9_base.1 ∈ GW := gw_of 1556 rfl rfl
set_option maxRecDepth 100000 in
theorem seX9_base : Cond.selects mX9_base.1.cls mX9_base.1 mX9_base.1 ∈ GW := gw_of 97 rfl rfl
abbrev mX9_kills : MI := (yX9_kills, cX9_kills, 4, (some .boolean))
set_option maxRecDepth 100000 in
theorem sbX9_kills : SB mX9_kills 2 := ⟨gw_of 150 rfl rfl, gw_of 1561 rfl rfl, ⟨by decide +kernel, by decide +kernel, by decide +kernel⟩, by decide⟩
set_option maxRecDepth 100000 in
theorem inX9_kills : Cond.instanceMethod mX9_kills.1 ∈ GW := gw_of 1560 rfl rfl
set_option maxRecDepth 100000 in
theorem seX9_kills : Cond.selects mX9_kills.1.cls mX9_kills.1 mX9_kills.1 ∈ GW := gw_of 98 rfl rfl
abbrev mX9_narrow : MI := (yX9_narrow, cX9_narrow, 6, none)
set_option maxRecDepth 100000 in
theorem sbX9_narrow : SB mX9_narrow 2 := ⟨gw_of 150 rfl rfl, gw_of 1565 rfl rfl, ⟨by decide +kernel, by decide +kernel, by decide +kernel⟩, by decide⟩
set_option maxRecDepth 100000 in
theorem inX9_narrow : Cond.instanceMethod mX9_narrow.1 ∈ GW := gw_of 1564 rfl rfl
set_option maxRecDepth 100000 in
theorem seX9_narrow : Cond.selects mX9_narrow.1.cls mX9_narrow.1 mX9_narrow.1 ∈ GW := gw_of 99 rfl rfl
abbrev mX9_is : MI := (yX9_is, cX9_is, 4, (some .boolean))
set_option maxRecDepth 100000 in
theorem sbX9_is : SB mX9_is 3 := ⟨gw_of 150 rfl rfl, gw_of 1569 rfl rfl, ⟨by decide +kernel, by decide +kernel, by decide +kernel⟩, by decide⟩
set_option maxRecDepth 100000 in
theorem inX9_is : Cond.instanceMethod mX9_is.1 ∈ GW := gw_of 1568 rfl rfl
set_option maxRecDepth 100000 in
theorem seX9_is : Cond.selects mX9_is.1.cls mX9_is.1 mX9_is.1 ∈ GW := gw_of 100 rfl rfl
abbrev mX9_holds : MI := (yX9_holds, cX9_holds, 6, (some .boolean))
set_option maxRecDepth 100000 in
theorem sbX9_holds : SB mX9_holds 4 := ⟨gw_of 150 rfl rfl, gw_of 1573 rfl rfl, ⟨by decide +kernel, by decide +kernel, by decide +kernel⟩, by decide⟩
set_option maxRecDepth 100000 in
theorem inX9_holds : Cond.instanceMethod mX9_holds.1 ∈ GW := gw_of 1572 rfl rfl
set_option maxRecDepth 100000 in
theorem seX9_holds : Cond.selects mX9_holds.1.cls mX9_holds.1 mX9_holds.1 ∈ GW := gw_of 101 rfl rfl
abbrev mX9_allNext : MI := (yX9_allNext, cX9_allNext, 5, (some .boolean))
set_option maxRecDepth 100000 in
theorem sbX9_allNext : SB mX9_allNext 3 := ⟨gw_of 150 rfl rfl, gw_of 1577 rfl rfl, ⟨by decide +kernel, by decide +kernel, by decide +kernel⟩, by decide⟩
set_option maxRecDepth 100000 in
theorem inX9_allNext : Cond.instanceMethod mX9_allNext.1 ∈ GW := gw_of 1576 rfl rfl
set_option maxRecDepth 100000 in
theorem seX9_allNext : Cond.selects mX9_allNext.1.cls mX9_allNext.1 mX9_allNext.1 ∈ GW := gw_of 102 rfl rfl
abbrev mX9_isBold : MI := (yX9_isBold, cX9_isBold, 3, (some .boolean))
set_option maxRecDepth 100000 in
theorem sbX9_isBold : SB mX9_isBold 2 := ⟨gw_of 150 rfl rfl, gw_of 1581 rfl rfl, ⟨by decide +kernel, by decide +kernel, by decide +kernel⟩, by decide⟩
set_option maxRecDepth 100000 in
theorem inX9_isBold : Cond.instanceMethod mX9_isBold.1 ∈ GW := gw_of 1580 rfl rfl
set_option maxRecDepth 100000 in
theorem seX9_isBold : Cond.selects mX9_isBold.1.cls mX9_isBold.1 mX9_isBold.1 ∈ GW := gw_of 103 rfl rfl
abbrev mX9_isSeen : MI := (yX9_isSeen, cX9_isSeen, 2, (some .boolean))
set_option maxRecDepth 100000 in
theorem sbX9_isSeen : SB mX9_isSeen 1 := ⟨gw_of 150 rfl rfl, gw_of 1585 rfl rfl, ⟨by decide +kernel, by decide +kernel, by decide +kernel⟩, by decide⟩
set_option maxRecDepth 100000 in
theorem inX9_isSeen : Cond.instanceMethod mX9_isSeen.1 ∈ GW := gw_of 1584 rfl rfl
set_option maxRecDepth 100000 in
theorem seX9_isSeen : Cond.selects mX9_isSeen.1.cls mX9_isSeen.1 mX9_isSeen.1 ∈ GW := gw_of 104 rfl rfl
abbrev mX9_allAhead : MI := (yX9_allAhead, cX9_allAhead, 6, (some .boolean))
set_option maxRecDepth 100000 in
theorem sbX9_allAhead : SB mX9_allAhead 3 := ⟨gw_of 150 rfl rfl, gw_of 1589 rfl rfl, ⟨by decide +kernel, by decide +kernel, by decide +kernel⟩, by decide⟩
set_option maxRecDepth 100000 in
theorem inX9_allAhead : Cond.instanceMethod mX9_allAhead.1 ∈ GW := gw_of 1588 rfl rfl
set_option maxRecDepth 100000 in
theorem seX9_allAhead : Cond.selects mX9_allAhead.1.cls mX9_allAhead.1 mX9_allAhead.1 ∈ GW := gw_of 105 rfl rfl
abbrev mX9_leads : MI := (yX9_leads, cX9_leads, 3, (some .boolean))
set_option maxRecDepth 100000 in
theorem sbX9_leads : SB mX9_leads 2 := ⟨gw_of 150 rfl rfl, gw_of 1593 rfl rfl, ⟨by decide +kernel, by decide +kernel, by decide +kernel⟩, by decide⟩
set_option maxRecDepth 100000 in
theorem inX9_leads : Cond.instanceMethod mX9_leads.1 ∈ GW := gw_of 1592 rfl rfl
set_option maxRecDepth 100000 in
theorem seX9_leads : Cond.selects mX9_leads.1.cls mX9_leads.1 mX9_leads.1 ∈ GW := gw_of 106 rfl rfl
abbrev mX9_isAloneNext : MI := (yX9_isAloneNext, cX9_isAloneNext, 3, (some .boolean))
set_option maxRecDepth 100000 in
theorem sbX9_isAloneNext : SB mX9_isAloneNext 2 := ⟨gw_of 150 rfl rfl, gw_of 1597 rfl rfl, ⟨by decide +kernel, by decide +kernel, by decide +kernel⟩, by decide⟩
set_option maxRecDepth 100000 in
theorem inX9_isAloneNext : Cond.instanceMethod mX9_isAloneNext.1 ∈ GW := gw_of 1596 rfl rfl
set_option maxRecDepth 100000 in
theorem seX9_isAloneNext : Cond.selects mX9_isAloneNext.1.cls mX9_isAloneNext.1 mX9_isAloneNext.1 ∈ GW := gw_of 107 rfl rfl
abbrev mX9_anyAhead : MI := (yX9_anyAhead, cX9_anyAhead, 4, (some .boolean))
set_option maxRecDepth 100000 in
theorem sbX9_anyAhead : SB mX9_anyAhead 2 := ⟨gw_of 150 rfl rfl, gw_of 1601 rfl rfl, ⟨by decide +kernel, by decide +kernel, by decide +kernel⟩, by decide⟩
set_option maxRecDepth 100000 in
theorem inX9_anyAhead : Cond.instanceMethod mX9_anyAhead.1 ∈ GW := gw_of 1600 rfl rfl
set_option maxRecDepth 100000 in
theorem seX9_anyAhead : Cond.selects mX9_anyAhead.1.cls mX9_anyAhead.1 mX9_anyAhead.1 ∈ GW := gw_of 108 rfl rfl
abbrev mX9_copy : MI := (yX9_copy, cX9_copy, 5, none)
set_option maxRecDepth 100000 in
theorem sbX9_copy : SB mX9_copy 1 := ⟨gw_of 150 rfl rfl, gw_of 1605 rfl rfl, ⟨by decide +kernel, by decide +kernel, by decide +kernel⟩, by decide⟩
set_option maxRecDepth 100000 in
theorem inX9_copy : Cond.instanceMethod mX9_copy.1 ∈ GW := gw_of 1604 rfl rfl
set_option maxRecDepth 100000 in
theorem seX9_copy : Cond.selects mX9_copy.1.cls mX9_copy.1 mX9_copy.1 ∈ GW := gw_of 109 rfl rfl
abbrev mX9_wrong : MI := (yX9_wrong, cX9_wrong, 1, (some .int))
set_option maxRecDepth 100000 in
theorem sbX9_wrong : SB mX9_wrong 0 := ⟨gw_of 150 rfl rfl, gw_of 1609 rfl rfl, ⟨by decide +kernel, by decide +kernel, by decide +kernel⟩, by decide⟩
set_option maxRecDepth 100000 in
theorem inX9_wrong : Cond.instanceMethod mX9_wrong.1 ∈ GW := gw_of 1607 rfl rfl
set_option maxRecDepth 100000 in
theorem seX9_wrong : Cond.selects mX9_wrong.1.cls mX9_wrong.1 mX9_wrong.1 ∈ GW := gw_of 1608 rfl rfl
abbrev mX9_about : MI := (yX9_about, cX9_about, 3, (some .int))
set_option maxRecDepth 100000 in
theorem sbX9_about : SB mX9_about 2 := ⟨gw_of 150 rfl rfl, gw_of 1613 rfl rfl, ⟨by decide +kernel, by decide +kernel, by decide +kernel⟩, by decide⟩
set_option maxRecDepth 100000 in
theorem inX9_about : Cond.instanceMethod mX9_about.1 ∈ GW := gw_of 1611 rfl rfl
set_option maxRecDepth 100000 in
theorem seX9_about : Cond.selects mX9_about.1.cls mX9_about.1 mX9_about.1 ∈ GW := gw_of 1612 rfl rfl
abbrev mX9_isThere : MI := (yX9_isThere, cX9_isThere, 2, (some .boolean))
set_option maxRecDepth 100000 in
theorem sbX9_isThere : SB mX9_isThere 1 := ⟨gw_of 150 rfl rfl, gw_of 1617 rfl rfl, ⟨by decide +kernel, by decide +kernel, by decide +kernel⟩, by decide⟩
set_option maxRecDepth 100000 in
theorem inX9_isThere : Cond.instanceMethod mX9_isThere.1 ∈ GW := gw_of 1616 rfl rfl
set_option maxRecDepth 100000 in
theorem seX9_isThere : Cond.selects mX9_isThere.1.cls mX9_isThere.1 mX9_isThere.1 ∈ GW := gw_of 110 rfl rfl
abbrev mX9_node : MI := (yX9_node, cX9_node, 7, (some .int))
set_option maxRecDepth 100000 in
theorem sbX9_node : SB mX9_node 3 := ⟨gw_of 150 rfl rfl, gw_of 1621 rfl rfl, ⟨by decide +kernel, by decide +kernel, by decide +kernel⟩, by decide⟩
set_option maxRecDepth 100000 in
theorem inX9_node : Cond.instanceMethod mX9_node.1 ∈ GW := gw_of 1619 rfl rfl
set_option maxRecDepth 100000 in
theorem seX9_node : Cond.selects mX9_node.1.cls mX9_node.1 mX9_node.1 ∈ GW := gw_of 1620 rfl rfl
abbrev mX9_sum : MI := (yX9_sum, cX9_sum, 7, (some .int))
set_option maxRecDepth 100000 in
theorem sbX9_sum : SB mX9_sum 3 := ⟨gw_of 150 rfl rfl, gw_of 1625 rfl rfl, ⟨by decide +kernel, by decide +kernel, by decide +kernel⟩, by decide⟩
set_option maxRecDepth 100000 in
theorem inX9_sum : Cond.instanceMethod mX9_sum.1 ∈ GW := gw_of 1623 rfl rfl
set_option maxRecDepth 100000 in
theorem seX9_sum : Cond.selects mX9_sum.1.cls mX9_sum.1 mX9_sum.1 ∈ GW := gw_of 1624 rfl rfl
abbrev mX9_isSum : MI := (yX9_isSum, cX9_isSum, 3, (some .boolean))
set_option maxRecDepth 100000 in
theorem sbX9_isSum : SB mX9_isSum 2 := ⟨gw_of 150 rfl rfl, gw_of 1629 rfl rfl, ⟨by decide +kernel, by decide +kernel, by decide +kernel⟩, by decide⟩
set_option maxRecDepth 100000 in
theorem inX9_isSum : Cond.instanceMethod mX9_isSum.1 ∈ GW := gw_of 1628 rfl rfl
set_option maxRecDepth 100000 in
theorem seX9_isSum : Cond.selects mX9_isSum.1.cls mX9_isSum.1 mX9_isSum.1 ∈ GW := gw_of 111 rfl rfl
abbrev mX9_coded : MI := (yX9_coded, cX9_coded, 3, (some .int))
set_option maxRecDepth 100000 in
theorem sbX9_coded : SB mX9_coded 2 := ⟨gw_of 150 rfl rfl, gw_of 1633 rfl rfl, ⟨by decide +kernel, by decide +kernel, by decide +kernel⟩, by decide⟩
set_option maxRecDepth 100000 in
theorem inX9_coded : Cond.instanceMethod mX9_coded.1 ∈ GW := gw_of 1632 rfl rfl
set_option maxRecDepth 100000 in
theorem seX9_coded : Cond.selects mX9_coded.1.cls mX9_coded.1 mX9_coded.1 ∈ GW := gw_of 112 rfl rfl
abbrev mX9_at_ : MI := (yX9_at_, cX9_at_, 5, (some .int))
set_option maxRecDepth 100000 in
theorem sbX9_at_ : SB mX9_at_ 4 := ⟨gw_of 150 rfl rfl, gw_of 1637 rfl rfl, ⟨by decide +kernel, by decide +kernel, by decide +kernel⟩, by decide⟩
set_option maxRecDepth 100000 in
theorem inX9_at_ : Cond.instanceMethod mX9_at_.1 ∈ GW := gw_of 1635 rfl rfl
set_option maxRecDepth 100000 in
theorem seX9_at_ : Cond.selects mX9_at_.1.cls mX9_at_.1 mX9_at_.1 ∈ GW := gw_of 1636 rfl rfl
abbrev mX9_placed : MI := (yX9_placed, cX9_placed, 6, (some .int))
set_option maxRecDepth 100000 in
theorem sbX9_placed : SB mX9_placed 5 := ⟨gw_of 150 rfl rfl, gw_of 1641 rfl rfl, ⟨by decide +kernel, by decide +kernel, by decide +kernel⟩, by decide⟩
set_option maxRecDepth 100000 in
theorem inX9_placed : Cond.instanceMethod mX9_placed.1 ∈ GW := gw_of 1639 rfl rfl
set_option maxRecDepth 100000 in
theorem seX9_placed : Cond.selects mX9_placed.1.cls mX9_placed.1 mX9_placed.1 ∈ GW := gw_of 1640 rfl rfl
abbrev mX9_isPlacing : MI := (yX9_isPlacing, cX9_isPlacing, 2, (some .boolean))
set_option maxRecDepth 100000 in
theorem sbX9_isPlacing : SB mX9_isPlacing 1 := ⟨gw_of 150 rfl rfl, gw_of 1645 rfl rfl, ⟨by decide +kernel, by decide +kernel, by decide +kernel⟩, by decide⟩
set_option maxRecDepth 100000 in
theorem inX9_isPlacing : Cond.instanceMethod mX9_isPlacing.1 ∈ GW := gw_of 1644 rfl rfl
set_option maxRecDepth 100000 in
theorem seX9_isPlacing : Cond.selects mX9_isPlacing.1.cls mX9_isPlacing.1 mX9_isPlacing.1 ∈ GW := gw_of 113 rfl rfl
abbrev mX9_isSet : MI := (yX9_isSet, cX9_isSet, 6, (some .boolean))
set_option maxRecDepth 100000 in
theorem sbX9_isSet : SB mX9_isSet 4 := ⟨gw_of 150 rfl rfl, gw_of 1649 rfl rfl, ⟨by decide +kernel, by decide +kernel, by decide +kernel⟩, by decide⟩
set_option maxRecDepth 100000 in
theorem inX9_isSet : Cond.instanceMethod mX9_isSet.1 ∈ GW := gw_of 1648 rfl rfl
set_option maxRecDepth 100000 in
theorem seX9_isSet : Cond.selects mX9_isSet.1.cls mX9_isSet.1 mX9_isSet.1 ∈ GW := gw_of 114 rfl rfl
abbrev mX9_isTaken : MI := (yX9_isTaken, cX9_isTaken, 6, (some .boolean))
set_option maxRecDepth 100000 in
theorem sbX9_isTaken : SB mX9_isTaken 4 := ⟨gw_of 150 rfl rfl, gw_of 1653 rfl rfl, ⟨by decide +kernel, by decide +kernel, by decide +kernel⟩, by decide⟩
set_option maxRecDepth 100000 in
theorem inX9_isTaken : Cond.instanceMethod mX9_isTaken.1 ∈ GW := gw_of 1652 rfl rfl
set_option maxRecDepth 100000 in
theorem seX9_isTaken : Cond.selects mX9_isTaken.1.cls mX9_isTaken.1 mX9_isTaken.1 ∈ GW := gw_of 115 rfl rfl
abbrev mX9_live : MI := (yX9_live, cX9_live, 8, none)
set_option maxRecDepth 100000 in
theorem sbX9_live : SB mX9_live 3 := ⟨gw_of 150 rfl rfl, gw_of 1657 rfl rfl, ⟨by decide +kernel, by decide +kernel, by decide +kernel⟩, by decide⟩
set_option maxRecDepth 100000 in
theorem inX9_live : Cond.instanceMethod mX9_live.1 ∈ GW := gw_of 1656 rfl rfl
set_option maxRecDepth 100000 in
theorem seX9_live : Cond.selects mX9_live.1.cls mX9_live.1 mX9_live.1 ∈ GW := gw_of 116 rfl rfl
abbrev mX9_life : MI := (yX9_life, cX9_life, 6, (some .int))
set_option maxRecDepth 100000 in
theorem sbX9_life : SB mX9_life 3 := ⟨gw_of 150 rfl rfl, gw_of 1661 rfl rfl, ⟨by decide +kernel, by decide +kernel, by decide +kernel⟩, by decide⟩
set_option maxRecDepth 100000 in
theorem inX9_life : Cond.instanceMethod mX9_life.1 ∈ GW := gw_of 1659 rfl rfl
set_option maxRecDepth 100000 in
theorem seX9_life : Cond.selects mX9_life.1.cls mX9_life.1 mX9_life.1 ∈ GW := gw_of 1660 rfl rfl
abbrev mX9_places : MI := (yX9_places, cX9_places, 7, (some .int))
set_option maxRecDepth 100000 in
theorem sbX9_places : SB mX9_places 4 := ⟨gw_of 150 rfl rfl, gw_of 1665 rfl rfl, ⟨by decide +kernel, by decide +kernel, by decide +kernel⟩, by decide⟩
set_option maxRecDepth 100000 in
theorem inX9_places : Cond.instanceMethod mX9_places.1 ∈ GW := gw_of 1663 rfl rfl
set_option maxRecDepth 100000 in
theorem seX9_places : Cond.selects mX9_places.1.cls mX9_places.1 mX9_places.1 ∈ GW := gw_of 1664 rfl rfl
abbrev mX9_name : MI := (yX9_name, cX9_name, 4, (some .int))
set_option maxRecDepth 100000 in
theorem sbX9_name : SB mX9_name 2 := ⟨gw_of 150 rfl rfl, gw_of 1669 rfl rfl, ⟨by decide +kernel, by decide +kernel, by decide +kernel⟩, by decide⟩
set_option maxRecDepth 100000 in
theorem inX9_name : Cond.instanceMethod mX9_name.1 ∈ GW := gw_of 1667 rfl rfl
set_option maxRecDepth 100000 in
theorem seX9_name : Cond.selects mX9_name.1.cls mX9_name.1 mX9_name.1 ∈ GW := gw_of 1668 rfl rfl
abbrev mX9_run : MI := (yX9_run, cX9_run, 5, (some .int))
set_option maxRecDepth 100000 in
theorem sbX9_run : SB mX9_run 2 := ⟨gw_of 150 rfl rfl, gw_of 1673 rfl rfl, ⟨by decide +kernel, by decide +kernel, by decide +kernel⟩, by decide⟩
set_option maxRecDepth 100000 in
theorem inX9_run : Cond.instanceMethod mX9_run.1 ∈ GW := gw_of 1671 rfl rfl
set_option maxRecDepth 100000 in
theorem seX9_run : Cond.selects mX9_run.1.cls mX9_run.1 mX9_run.1 ∈ GW := gw_of 1672 rfl rfl
abbrev mX9_step : MI := (yX9_step, cX9_step, 8, (some .int))
set_option maxRecDepth 100000 in
theorem sbX9_step : SB mX9_step 4 := ⟨gw_of 150 rfl rfl, gw_of 1677 rfl rfl, ⟨by decide +kernel, by decide +kernel, by decide +kernel⟩, by decide⟩
set_option maxRecDepth 100000 in
theorem inX9_step : Cond.instanceMethod mX9_step.1 ∈ GW := gw_of 1676 rfl rfl
set_option maxRecDepth 100000 in
theorem seX9_step : Cond.selects mX9_step.1.cls mX9_step.1 mX9_step.1 ∈ GW := gw_of 117 rfl rfl
abbrev mX9_work : MI := (yX9_work, cX9_work, 6, (some .int))
set_option maxRecDepth 100000 in
theorem sbX9_work : SB mX9_work 2 := ⟨gw_of 150 rfl rfl, gw_of 1681 rfl rfl, ⟨by decide +kernel, by decide +kernel, by decide +kernel⟩, by decide⟩
set_option maxRecDepth 100000 in
theorem inX9_work : Cond.instanceMethod mX9_work.1 ∈ GW := gw_of 1680 rfl rfl
set_option maxRecDepth 100000 in
theorem seX9_work : Cond.selects mX9_work.1.cls mX9_work.1 mX9_work.1 ∈ GW := gw_of 118 rfl rfl
abbrev mX9_of : MI := (yX9_of, cX9_of, 3, (some .int))
set_option maxRecDepth 100000 in
theorem sbX9_of : SB mX9_of 2 := ⟨gw_of 150 rfl rfl, gw_of 1685 rfl rfl, ⟨by decide +kernel, by decide +kernel, by decide +kernel⟩, by decide⟩
set_option maxRecDepth 100000 in
theorem inX9_of : Cond.instanceMethod mX9_of.1 ∈ GW := gw_of 1684 rfl rfl
set_option maxRecDepth 100000 in
theorem seX9_of : Cond.selects mX9_of.1.cls mX9_of.1 mX9_of.1 ∈ GW := gw_of 119 rfl rfl
abbrev mX9_ran : MI := (yX9_ran, cX9_ran, 2, (some .int))
set_option maxRecDepth 100000 in
theorem sbX9_ran : SB mX9_ran 1 := ⟨gw_of 150 rfl rfl, gw_of 1689 rfl rfl, ⟨by decide +kernel, by decide +kernel, by decide +kernel⟩, by decide⟩
set_option maxRecDepth 100000 in
theorem inX9_ran : Cond.instanceMethod mX9_ran.1 ∈ GW := gw_of 1687 rfl rfl
set_option maxRecDepth 100000 in
theorem seX9_ran : Cond.selects mX9_ran.1.cls mX9_ran.1 mX9_ran.1 ∈ GW := gw_of 1688 rfl rfl
abbrev mX9_told : MI := (yX9_told, cX9_told, 2, (some .int))
set_option maxRecDepth 100000 in
theorem sbX9_told : SB mX9_told 1 := ⟨gw_of 150 rfl rfl, gw_of 1693 rfl rfl, ⟨by decide +kernel, by decide +kernel, by decide +kernel⟩, by decide⟩
set_option maxRecDepth 100000 in
theorem inX9_told : Cond.instanceMethod mX9_told.1 ∈ GW := gw_of 1691 rfl rfl
set_option maxRecDepth 100000 in
theorem seX9_told : Cond.selects mX9_told.1.cls mX9_told.1 mX9_told.1 ∈ GW := gw_of 1692 rfl rfl
abbrev mX9_value : MI := (yX9_value, cX9_value, 2, (some .int))
set_option maxRecDepth 100000 in
theorem sbX9_value : SB mX9_value 1 := ⟨gw_of 150 rfl rfl, gw_of 1697 rfl rfl, ⟨by decide +kernel, by decide +kernel, by decide +kernel⟩, by decide⟩
set_option maxRecDepth 100000 in
theorem inX9_value : Cond.instanceMethod mX9_value.1 ∈ GW := gw_of 1695 rfl rfl
set_option maxRecDepth 100000 in
theorem seX9_value : Cond.selects mX9_value.1.cls mX9_value.1 mX9_value.1 ∈ GW := gw_of 1696 rfl rfl
abbrev mX9_row : MI := (yX9_row, cX9_row, 3, (some .int))
set_option maxRecDepth 100000 in
theorem sbX9_row : SB mX9_row 2 := ⟨gw_of 150 rfl rfl, gw_of 1701 rfl rfl, ⟨by decide +kernel, by decide +kernel, by decide +kernel⟩, by decide⟩
set_option maxRecDepth 100000 in
theorem inX9_row : Cond.instanceMethod mX9_row.1 ∈ GW := gw_of 1699 rfl rfl
set_option maxRecDepth 100000 in
theorem seX9_row : Cond.selects mX9_row.1.cls mX9_row.1 mX9_row.1 ∈ GW := gw_of 1700 rfl rfl
abbrev mX9_worked : MI := (yX9_worked, cX9_worked, 2, (some .int))
set_option maxRecDepth 100000 in
theorem sbX9_worked : SB mX9_worked 1 := ⟨gw_of 150 rfl rfl, gw_of 1705 rfl rfl, ⟨by decide +kernel, by decide +kernel, by decide +kernel⟩, by decide⟩
set_option maxRecDepth 100000 in
theorem inX9_worked : Cond.instanceMethod mX9_worked.1 ∈ GW := gw_of 1703 rfl rfl
set_option maxRecDepth 100000 in
theorem seX9_worked : Cond.selects mX9_worked.1.cls mX9_worked.1 mX9_worked.1 ∈ GW := gw_of 1704 rfl rfl
abbrev mX9_step_ : MI := (yX9_step_, cX9_step_, 5, (some .int))
set_option maxRecDepth 100000 in
theorem sbX9_step_ : SB mX9_step_ 2 := ⟨gw_of 150 rfl rfl, gw_of 1709 rfl rfl, ⟨by decide +kernel, by decide +kernel, by decide +kernel⟩, by decide⟩
set_option maxRecDepth 100000 in
theorem inX9_step_ : Cond.instanceMethod mX9_step_.1 ∈ GW := gw_of 1707 rfl rfl
set_option maxRecDepth 100000 in
theorem seX9_step_ : Cond.selects mX9_step_.1.cls mX9_step_.1 mX9_step_.1 ∈ GW := gw_of 1708 rfl rfl
abbrev mX9_end : MI := (yX9_end, cX9_end, 3, (some .int))
set_option maxRecDepth 100000 in
theorem sbX9_end : SB mX9_end 2 := ⟨gw_of 150 rfl rfl, gw_of 1713 rfl rfl, ⟨by decide +kernel, by decide +kernel, by decide +kernel⟩, by decide⟩
set_option maxRecDepth 100000 in
theorem inX9_end : Cond.instanceMethod mX9_end.1 ∈ GW := gw_of 1712 rfl rfl
set_option maxRecDepth 100000 in
theorem seX9_end : Cond.selects mX9_end.1.cls mX9_end.1 mX9_end.1 ∈ GW := gw_of 120 rfl rfl
abbrev mX9_passes : MI := (yX9_passes, cX9_passes, 6, (some .int))
set_option maxRecDepth 100000 in
theorem sbX9_passes : SB mX9_passes 3 := ⟨gw_of 150 rfl rfl, gw_of 1717 rfl rfl, ⟨by decide +kernel, by decide +kernel, by decide +kernel⟩, by decide⟩
set_option maxRecDepth 100000 in
theorem inX9_passes : Cond.instanceMethod mX9_passes.1 ∈ GW := gw_of 1716 rfl rfl
set_option maxRecDepth 100000 in
theorem seX9_passes : Cond.selects mX9_passes.1.cls mX9_passes.1 mX9_passes.1 ∈ GW := gw_of 121 rfl rfl
abbrev mX9_home : MI := (yX9_home, cX9_home, 3, (some .int))
set_option maxRecDepth 100000 in
theorem sbX9_home : SB mX9_home 1 := ⟨gw_of 150 rfl rfl, gw_of 1721 rfl rfl, ⟨by decide +kernel, by decide +kernel, by decide +kernel⟩, by decide⟩
set_option maxRecDepth 100000 in
theorem inX9_home : Cond.instanceMethod mX9_home.1 ∈ GW := gw_of 1719 rfl rfl
set_option maxRecDepth 100000 in
theorem seX9_home : Cond.selects mX9_home.1.cls mX9_home.1 mX9_home.1 ∈ GW := gw_of 1720 rfl rfl
abbrev mX9_works : MI := (yX9_works, cX9_works, 9, (some .int))
set_option maxRecDepth 100000 in
theorem sbX9_works : SB mX9_works 3 := ⟨gw_of 150 rfl rfl, gw_of 1725 rfl rfl, ⟨by decide +kernel, by decide +kernel, by decide +kernel⟩, by decide⟩
set_option maxRecDepth 100000 in
theorem inX9_works : Cond.instanceMethod mX9_works.1 ∈ GW := gw_of 1723 rfl rfl
set_option maxRecDepth 100000 in
theorem seX9_works : Cond.selects mX9_works.1.cls mX9_works.1 mX9_works.1 ∈ GW := gw_of 1724 rfl rfl
abbrev mX9_worksAt : MI := (yX9_worksAt, cX9_worksAt, 5, (some .int))
set_option maxRecDepth 100000 in
theorem sbX9_worksAt : SB mX9_worksAt 4 := ⟨gw_of 150 rfl rfl, gw_of 1729 rfl rfl, ⟨by decide +kernel, by decide +kernel, by decide +kernel⟩, by decide⟩
set_option maxRecDepth 100000 in
theorem inX9_worksAt : Cond.instanceMethod mX9_worksAt.1 ∈ GW := gw_of 1728 rfl rfl
set_option maxRecDepth 100000 in
theorem seX9_worksAt : Cond.selects mX9_worksAt.1.cls mX9_worksAt.1 mX9_worksAt.1 ∈ GW := gw_of 122 rfl rfl
abbrev mX9_write : MI := (yX9_write, cX9_write, 6, (some .int))
set_option maxRecDepth 100000 in
theorem sbX9_write : SB mX9_write 2 := ⟨gw_of 150 rfl rfl, gw_of 1733 rfl rfl, ⟨by decide +kernel, by decide +kernel, by decide +kernel⟩, by decide⟩
set_option maxRecDepth 100000 in
theorem inX9_write : Cond.instanceMethod mX9_write.1 ∈ GW := gw_of 1731 rfl rfl
set_option maxRecDepth 100000 in
theorem seX9_write : Cond.selects mX9_write.1.cls mX9_write.1 mX9_write.1 ∈ GW := gw_of 1732 rfl rfl
abbrev mX9_hasT : MI := (yX9_hasT, cX9_hasT, 6, (some .boolean))
set_option maxRecDepth 100000 in
theorem sbX9_hasT : SB mX9_hasT 1 := ⟨gw_of 150 rfl rfl, gw_of 1737 rfl rfl, ⟨by decide +kernel, by decide +kernel, by decide +kernel⟩, by decide⟩
set_option maxRecDepth 100000 in
theorem inX9_hasT : Cond.instanceMethod mX9_hasT.1 ∈ GW := gw_of 1736 rfl rfl
set_option maxRecDepth 100000 in
theorem seX9_hasT : Cond.selects mX9_hasT.1.cls mX9_hasT.1 mX9_hasT.1 ∈ GW := gw_of 123 rfl rfl
abbrev mX9_sets : MI := (yX9_sets, cX9_sets, 6, (some .boolean))
set_option maxRecDepth 100000 in
theorem sbX9_sets : SB mX9_sets 3 := ⟨gw_of 150 rfl rfl, gw_of 1741 rfl rfl, ⟨by decide +kernel, by decide +kernel, by decide +kernel⟩, by decide⟩
set_option maxRecDepth 100000 in
theorem inX9_sets : Cond.instanceMethod mX9_sets.1 ∈ GW := gw_of 1740 rfl rfl
set_option maxRecDepth 100000 in
theorem seX9_sets : Cond.selects mX9_sets.1.cls mX9_sets.1 mX9_sets.1 ∈ GW := gw_of 124 rfl rfl
abbrev mX9_head : MI := (yX9_head, cX9_head, 2, none)
set_option maxRecDepth 100000 in
theorem sbX9_head : SB mX9_head 1 := ⟨gw_of 150 rfl rfl, gw_of 1745 rfl rfl, ⟨by decide +kernel, by decide +kernel, by decide +kernel⟩, by decide⟩
set_option maxRecDepth 100000 in
theorem inX9_head : Cond.instanceMethod mX9_head.1 ∈ GW := gw_of 1744 rfl rfl
set_option maxRecDepth 100000 in
theorem seX9_head : Cond.selects mX9_head.1.cls mX9_head.1 mX9_head.1 ∈ GW := gw_of 125 rfl rfl
abbrev mX9_sayBlock : MI := (yX9_sayBlock, cX9_sayBlock, 2, none)
set_option maxRecDepth 100000 in
theorem sbX9_sayBlock : SB mX9_sayBlock 1 := ⟨gw_of 150 rfl rfl, gw_of 1749 rfl rfl, ⟨by decide +kernel, by decide +kernel, by decide +kernel⟩, by decide⟩
set_option maxRecDepth 100000 in
theorem inX9_sayBlock : Cond.instanceMethod mX9_sayBlock.1 ∈ GW := gw_of 1748 rfl rfl
set_option maxRecDepth 100000 in
theorem seX9_sayBlock : Cond.selects mX9_sayBlock.1.cls mX9_sayBlock.1 mX9_sayBlock.1 ∈ GW := gw_of 126 rfl rfl
abbrev mX9_say : MI := (yX9_say, cX9_say, 2, none)
set_option maxRecDepth 100000 in
theorem sbX9_say : SB mX9_say 1 := ⟨gw_of 150 rfl rfl, gw_of 1753 rfl rfl, ⟨by decide +kernel, by decide +kernel, by decide +kernel⟩, by decide⟩
set_option maxRecDepth 100000 in
theorem inX9_say : Cond.instanceMethod mX9_say.1 ∈ GW := gw_of 1752 rfl rfl
set_option maxRecDepth 100000 in
theorem seX9_say : Cond.selects mX9_say.1.cls mX9_say.1 mX9_say.1 ∈ GW := gw_of 127 rfl rfl
abbrev mX9_sayNumber : MI := (yX9_sayNumber, cX9_sayNumber, 6, none)
set_option maxRecDepth 100000 in
theorem sbX9_sayNumber : SB mX9_sayNumber 1 := ⟨gw_of 150 rfl rfl, gw_of 1757 rfl rfl, ⟨by decide +kernel, by decide +kernel, by decide +kernel⟩, by decide⟩
set_option maxRecDepth 100000 in
theorem inX9_sayNumber : Cond.instanceMethod mX9_sayNumber.1 ∈ GW := gw_of 1756 rfl rfl
set_option maxRecDepth 100000 in
theorem seX9_sayNumber : Cond.selects mX9_sayNumber.1.cls mX9_sayNumber.1 mX9_sayNumber.1 ∈ GW := gw_of 128 rfl rfl
abbrev mX9_saySets : MI := (yX9_saySets, cX9_saySets, 5, none)
set_option maxRecDepth 100000 in
theorem sbX9_saySets : SB mX9_saySets 3 := ⟨gw_of 150 rfl rfl, gw_of 1762 rfl rfl, ⟨by decide +kernel, by decide +kernel, by decide +kernel⟩, by decide⟩
set_option maxRecDepth 100000 in
theorem inX9_saySets : Cond.instanceMethod mX9_saySets.1 ∈ GW := gw_of 1761 rfl rfl
set_option maxRecDepth 100000 in
theorem seX9_saySets : Cond.selects mX9_saySets.1.cls mX9_saySets.1 mX9_saySets.1 ∈ GW := gw_of 129 rfl rfl
abbrev mX9_begin : MI := (yX9_begin, cX9_begin, 1, none)
set_option maxRecDepth 100000 in
theorem sbX9_begin : SB mX9_begin 0 := ⟨gw_of 150 rfl rfl, gw_of 1766 rfl rfl, ⟨by decide +kernel, by decide +kernel, by decide +kernel⟩, by decide⟩
set_option maxRecDepth 100000 in
theorem inX9_begin : Cond.instanceMethod mX9_begin.1 ∈ GW := gw_of 1765 rfl rfl
set_option maxRecDepth 100000 in
theorem seX9_begin : Cond.selects mX9_begin.1.cls mX9_begin.1 mX9_begin.1 ∈ GW := gw_of 130 rfl rfl
abbrev mX9_sayT : MI := (yX9_sayT, cX9_sayT, 2, none)
set_option maxRecDepth 100000 in
theorem sbX9_sayT : SB mX9_sayT 1 := ⟨gw_of 150 rfl rfl, gw_of 1770 rfl rfl, ⟨by decide +kernel, by decide +kernel, by decide +kernel⟩, by decide⟩
set_option maxRecDepth 100000 in
theorem inX9_sayT : Cond.instanceMethod mX9_sayT.1 ∈ GW := gw_of 1769 rfl rfl
set_option maxRecDepth 100000 in
theorem seX9_sayT : Cond.selects mX9_sayT.1.cls mX9_sayT.1 mX9_sayT.1 ∈ GW := gw_of 131 rfl rfl
abbrev mX9_is_ : MI := (yX9_is_, cX9_is_, 1, none)
set_option maxRecDepth 100000 in
theorem sbX9_is_ : SB mX9_is_ 0 := ⟨gw_of 150 rfl rfl, gw_of 1774 rfl rfl, ⟨by decide +kernel, by decide +kernel, by decide +kernel⟩, by decide⟩
set_option maxRecDepth 100000 in
theorem inX9_is_ : Cond.instanceMethod mX9_is_.1 ∈ GW := gw_of 1773 rfl rfl
set_option maxRecDepth 100000 in
theorem seX9_is_ : Cond.selects mX9_is_.1.cls mX9_is_.1 mX9_is_.1 ∈ GW := gw_of 132 rfl rfl
abbrev mX9_saySum : MI := (yX9_saySum, cX9_saySum, 4, none)
set_option maxRecDepth 100000 in
theorem sbX9_saySum : SB mX9_saySum 2 := ⟨gw_of 150 rfl rfl, gw_of 1778 rfl rfl, ⟨by decide +kernel, by decide +kernel, by decide +kernel⟩, by decide⟩
set_option maxRecDepth 100000 in
theorem inX9_saySum : Cond.instanceMethod mX9_saySum.1 ∈ GW := gw_of 1777 rfl rfl
set_option maxRecDepth 100000 in
theorem seX9_saySum : Cond.selects mX9_saySum.1.cls mX9_saySum.1 mX9_saySum.1 ∈ GW := gw_of 133 rfl rfl
abbrev mX9_sayRow : MI := (yX9_sayRow, cX9_sayRow, 4, none)
set_option maxRecDepth 100000 in
theorem sbX9_sayRow : SB mX9_sayRow 3 := ⟨gw_of 150 rfl rfl, gw_of 1782 rfl rfl, ⟨by decide +kernel, by decide +kernel, by decide +kernel⟩, by decide⟩
set_option maxRecDepth 100000 in
theorem inX9_sayRow : Cond.instanceMethod mX9_sayRow.1 ∈ GW := gw_of 1781 rfl rfl
set_option maxRecDepth 100000 in
theorem seX9_sayRow : Cond.selects mX9_sayRow.1.cls mX9_sayRow.1 mX9_sayRow.1 ∈ GW := gw_of 134 rfl rfl
abbrev mX9_sayOperand : MI := (yX9_sayOperand, cX9_sayOperand, 3, none)
set_option maxRecDepth 100000 in
theorem sbX9_sayOperand : SB mX9_sayOperand 2 := ⟨gw_of 150 rfl rfl, gw_of 1786 rfl rfl, ⟨by decide +kernel, by decide +kernel, by decide +kernel⟩, by decide⟩
set_option maxRecDepth 100000 in
theorem inX9_sayOperand : Cond.instanceMethod mX9_sayOperand.1 ∈ GW := gw_of 1785 rfl rfl
set_option maxRecDepth 100000 in
theorem seX9_sayOperand : Cond.selects mX9_sayOperand.1.cls mX9_sayOperand.1 mX9_sayOperand.1 ∈ GW := gw_of 135 rfl rfl
abbrev mX9_close : MI := (yX9_close, cX9_close, 1, none)
set_option maxRecDepth 100000 in
theorem sbX9_close : SB mX9_close 0 := ⟨gw_of 150 rfl rfl, gw_of 1790 rfl rfl, ⟨by decide +kernel, by decide +kernel, by decide +kernel⟩, by decide⟩
set_option maxRecDepth 100000 in
theorem inX9_close : Cond.instanceMethod mX9_close.1 ∈ GW := gw_of 1789 rfl rfl
set_option maxRecDepth 100000 in
theorem seX9_close : Cond.selects mX9_close.1.cls mX9_close.1 mX9_close.1 ∈ GW := gw_of 136 rfl rfl
abbrev mX9_sayNode : MI := (yX9_sayNode, cX9_sayNode, 5, none)
set_option maxRecDepth 100000 in
theorem sbX9_sayNode : SB mX9_sayNode 3 := ⟨gw_of 150 rfl rfl, gw_of 1794 rfl rfl, ⟨by decide +kernel, by decide +kernel, by decide +kernel⟩, by decide⟩
set_option maxRecDepth 100000 in
theorem inX9_sayNode : Cond.instanceMethod mX9_sayNode.1 ∈ GW := gw_of 1793 rfl rfl
set_option maxRecDepth 100000 in
theorem seX9_sayNode : Cond.selects mX9_sayNode.1.cls mX9_sayNode.1 mX9_sayNode.1 ∈ GW := gw_of 137 rfl rfl
abbrev mX9_asBlock : MI := (yX9_asBlock, cX9_asBlock, 3, (some .int))
set_option maxRecDepth 100000 in
theorem sbX9_asBlock : SB mX9_asBlock 2 := ⟨gw_of 150 rfl rfl, gw_of 1798 rfl rfl, ⟨by decide +kernel, by decide +kernel, by decide +kernel⟩, by decide⟩
set_option maxRecDepth 100000 in
theorem inX9_asBlock : Cond.instanceMethod mX9_asBlock.1 ∈ GW := gw_of 1797 rfl rfl
set_option maxRecDepth 100000 in
theorem seX9_asBlock : Cond.selects mX9_asBlock.1.cls mX9_asBlock.1 mX9_asBlock.1 ∈ GW := gw_of 138 rfl rfl
abbrev mX9_sayGo : MI := (yX9_sayGo, cX9_sayGo, 2, none)
set_option maxRecDepth 100000 in
theorem sbX9_sayGo : SB mX9_sayGo 1 := ⟨gw_of 150 rfl rfl, gw_of 1802 rfl rfl, ⟨by decide +kernel, by decide +kernel, by decide +kernel⟩, by decide⟩
set_option maxRecDepth 100000 in
theorem inX9_sayGo : Cond.instanceMethod mX9_sayGo.1 ∈ GW := gw_of 1801 rfl rfl
set_option maxRecDepth 100000 in
theorem seX9_sayGo : Cond.selects mX9_sayGo.1.cls mX9_sayGo.1 mX9_sayGo.1 ∈ GW := gw_of 139 rfl rfl
set_option maxRecDepth 100000 in
theorem oi_in : Cond.instanceMethod objectInit ∈ GW := gw_of 165 rfl rfl
set_option maxRecDepth 100000 in
theorem oi_co : Cond.code objectInit ⟨#[0xb1]⟩ 1 none ∈ GW := gw_of 166 rfl rfl
set_option maxRecDepth 100000 in
theorem vX8_3 : Cond.methodLink RX8 3 objectInit ∈ GW := gw_of 164 rfl rfl
set_option maxRecDepth 100000 in
theorem nX8_9 : Cond.classLink RX8 9 RX5 ∈ GW := gw_of 167 rfl rfl
set_option maxRecDepth 100000 in
theorem vX8_11 : SIN RX8 "LateAndEarly" 11 mX5_init 0 := ⟨sbX5_init, List.mem_of_getElem? (i := 169) rfl, inX5_init, rfl, rfl⟩
set_option maxRecDepth 100000 in
theorem fX8_12 : FLK RX8 12 8 0 := ⟨by decide, by decide, by decide +kernel, gw_of 500 rfl rfl⟩
set_option maxRecDepth 100000 in
theorem nX8_16 : Cond.classLink RX8 16 RX2 ∈ GW := gw_of 183 rfl rfl
set_option maxRecDepth 100000 in
theorem fX8_18 : FLK RX8 18 8 1 := ⟨by decide, by decide, by decide +kernel, gw_of 501 rfl rfl⟩
set_option maxRecDepth 100000 in
theorem nX8_22 : Cond.classLink RX8 22 RX1 ∈ GW := gw_of 185 rfl rfl
set_option maxRecDepth 100000 in
theorem vX8_24 : SIN RX8 "LateAndEarly" 24 mX1_init 0 := ⟨sbX1_init, List.mem_of_getElem? (i := 187) rfl, inX1_init, rfl, rfl⟩
set_option maxRecDepth 100000 in
theorem fX8_25 : FLK RX8 25 8 2 := ⟨by decide, by decide, by decide +kernel, gw_of 502 rfl rfl⟩
set_option maxRecDepth 100000 in
theorem nX8_29 : Cond.classLink RX8 29 RX3 ∈ GW := gw_of 424 rfl rfl
set_option maxRecDepth 100000 in
theorem vX8_31 : SIN RX8 "LateAndEarly" 31 mX3_init 0 := ⟨sbX3_init, List.mem_of_getElem? (i := 426) rfl, inX3_init, rfl, rfl⟩
set_option maxRecDepth 100000 in
theorem fX8_32 : FLK RX8 32 8 3 := ⟨by decide, by decide, by decide +kernel, gw_of 503 rfl rfl⟩
set_option maxRecDepth 100000 in
theorem nX8_36 : Cond.classLink RX8 36 RX7 ∈ GW := gw_of 478 rfl rfl
set_option maxRecDepth 100000 in
theorem vX8_38 : SIN RX8 "LateAndEarly" 38 mX7_init 0 := ⟨sbX7_init, List.mem_of_getElem? (i := 480) rfl, inX7_init, rfl, rfl⟩
set_option maxRecDepth 100000 in
theorem fX8_39 : FLK RX8 39 8 4 := ⟨by decide, by decide, by decide +kernel, gw_of 504 rfl rfl⟩
set_option maxRecDepth 100000 in
theorem fX8_43 : FLK RX8 43 5 1 := ⟨by decide, by decide, by decide +kernel, gw_of 176 rfl rfl⟩
set_option maxRecDepth 100000 in
theorem vX8_47 : SV RX8 47 mX5_add 1 := ⟨sbX5_add, gw_of 523 rfl rfl, inX5_add, seX5_add⟩
set_option maxRecDepth 100000 in
theorem vX8_51 : SV RX8 51 mX5_byteAt 1 := ⟨sbX5_byteAt, gw_of 535 rfl rfl, inX5_byteAt, seX5_byteAt⟩
set_option maxRecDepth 100000 in
theorem vX8_55 : SV RX8 55 mX1_readText 1 := ⟨sbX1_readText, gw_of 543 rfl rfl, inX1_readText, seX1_readText⟩
set_option maxRecDepth 100000 in
theorem fX8_59 : FLK RX8 59 1 6 := ⟨by decide, by decide, by decide +kernel, gw_of 404 rfl rfl⟩
set_option maxRecDepth 100000 in
theorem fX8_62 : FLK RX8 62 8 5 := ⟨by decide, by decide, by decide +kernel, gw_of 505 rfl rfl⟩
set_option maxRecDepth 100000 in
theorem fX8_65 : FLK RX8 65 1 7 := ⟨by decide, by decide, by decide +kernel, gw_of 405 rfl rfl⟩
set_option maxRecDepth 100000 in
theorem fX8_68 : FLK RX8 68 1 5 := ⟨by decide, by decide, by decide +kernel, gw_of 402 rfl rfl⟩
set_option maxRecDepth 100000 in
theorem fX8_72 : FLK RX8 72 2 10 := ⟨by decide, by decide, by decide +kernel, gw_of 339 rfl rfl⟩
set_option maxRecDepth 100000 in
theorem fX8_76 : FLK RX8 76 4 4 := ⟨by decide, by decide, by decide +kernel, gw_of 247 rfl rfl⟩
set_option maxRecDepth 100000 in
theorem vX8_82 : SV RX8 82 mX2_finish 0 := ⟨sbX2_finish, gw_of 812 rfl rfl, inX2_finish, seX2_finish⟩
set_option maxRecDepth 100000 in
theorem vX8_85 : SIN RX8 "LateAndEarly" 85 mX2_init 0 := ⟨sbX2_init, List.mem_of_getElem? (i := 913) rfl, inX2_init, rfl, rfl⟩
set_option maxRecDepth 100000 in
theorem fX8_86 : FLK RX8 86 2 14 := ⟨by decide, by decide, by decide +kernel, gw_of 355 rfl rfl⟩
set_option maxRecDepth 100000 in
theorem fX8_93 : FLK RX8 93 2 12 := ⟨by decide, by decide, by decide +kernel, gw_of 347 rfl rfl⟩
set_option maxRecDepth 100000 in
theorem fX8_96 : FLK RX8 96 4 3 := ⟨by decide, by decide, by decide +kernel, gw_of 245 rfl rfl⟩
set_option maxRecDepth 100000 in
theorem fX8_99 : FLK RX8 99 2 13 := ⟨by decide, by decide, by decide +kernel, gw_of 351 rfl rfl⟩
set_option maxRecDepth 100000 in
theorem vX8_102 : SV RX8 102 mX2_hasNode 1 := ⟨sbX2_hasNode, gw_of 930 rfl rfl, inX2_hasNode, seX2_hasNode⟩
set_option maxRecDepth 100000 in
theorem fX8_106 : FLK RX8 106 2 0 := ⟨by decide, by decide, by decide +kernel, gw_of 303 rfl rfl⟩
set_option maxRecDepth 100000 in
theorem fX8_110 : FLK RX8 110 2 1 := ⟨by decide, by decide, by decide +kernel, gw_of 306 rfl rfl⟩
set_option maxRecDepth 100000 in
theorem fX8_113 : FLK RX8 113 2 4 := ⟨by decide, by decide, by decide +kernel, gw_of 320 rfl rfl⟩
set_option maxRecDepth 100000 in
theorem fX8_116 : FLK RX8 116 2 6 := ⟨by decide, by decide, by decide +kernel, gw_of 325 rfl rfl⟩
set_option maxRecDepth 100000 in
theorem fX8_120 : FLK RX8 120 2 7 := ⟨by decide, by decide, by decide +kernel, gw_of 330 rfl rfl⟩
set_option maxRecDepth 100000 in
theorem vX8_123 : SV RX8 123 mX4_has 1 := ⟨sbX4_has, gw_of 938 rfl rfl, inX4_has, seX4_has⟩
set_option maxRecDepth 100000 in
theorem fX8_126 : FLK RX8 126 4 0 := ⟨by decide, by decide, by decide +kernel, gw_of 231 rfl rfl⟩
set_option maxRecDepth 100000 in
theorem fX8_129 : FLK RX8 129 4 1 := ⟨by decide, by decide, by decide +kernel, gw_of 235 rfl rfl⟩
set_option maxRecDepth 100000 in
theorem vX8_132 : SS RX8 132 mX8_toldOperand 1 := ⟨sbX8_toldOperand, gw_of 942 rfl rfl, stX8_toldOperand⟩
set_option maxRecDepth 100000 in
theorem fX8_135 : FLK RX8 135 4 2 := ⟨by decide, by decide, by decide +kernel, gw_of 239 rfl rfl⟩
set_option maxRecDepth 100000 in
theorem vX8_138 : SV RX8 138 mX4_isBold 1 := ⟨sbX4_isBold, gw_of 952 rfl rfl, inX4_isBold, seX4_isBold⟩
set_option maxRecDepth 100000 in
theorem vX8_141 : SV RX8 141 mX2_countNodesThatWork 1 := ⟨sbX2_countNodesThatWork, gw_of 953 rfl rfl, inX2_countNodesThatWork, seX2_countNodesThatWork⟩
set_option maxRecDepth 100000 in
theorem vX8_89 : SV RX8 89 mX8_routineAt 1 := ⟨sbX8_routineAt, gw_of 922 rfl rfl, inX8_routineAt, seX8_routineAt⟩
set_option maxRecDepth 100000 in
theorem fX8_144 : FLK RX8 144 2 11 := ⟨by decide, by decide, by decide +kernel, gw_of 343 rfl rfl⟩
set_option maxRecDepth 100000 in
theorem vX8_148 : SV RX8 148 mX0_setAt 2 := ⟨sbX0_setAt, gw_of 961 rfl rfl, inX0_setAt, seX0_setAt⟩
set_option maxRecDepth 100000 in
theorem vX8_154 : SS RX8 154 mX8_isPlacing 1 := ⟨sbX8_isPlacing, gw_of 969 rfl rfl, stX8_isPlacing⟩
set_option maxRecDepth 100000 in
theorem vX8_157 : SV RX8 157 mX0_setAhead 2 := ⟨sbX0_setAhead, gw_of 972 rfl rfl, inX0_setAhead, seX0_setAhead⟩
set_option maxRecDepth 100000 in
theorem vX8_160 : SV RX8 160 mX0_taken 2 := ⟨sbX0_taken, gw_of 973 rfl rfl, inX0_taken, seX0_taken⟩
set_option maxRecDepth 100000 in
theorem vX8_163 : SV RX8 163 mX0_alive 2 := ⟨sbX0_alive, gw_of 974 rfl rfl, inX0_alive, seX0_alive⟩
set_option maxRecDepth 100000 in
theorem fX8_166 : FLK RX8 166 3 0 := ⟨by decide, by decide, by decide +kernel, gw_of 432 rfl rfl⟩
set_option maxRecDepth 100000 in
theorem vX8_169 : SV RX8 169 mX3_go 2 := ⟨sbX3_go, gw_of 994 rfl rfl, inX3_go, seX3_go⟩
set_option maxRecDepth 100000 in
theorem fX8_173 : FLK RX8 173 3 7 := ⟨by decide, by decide, by decide +kernel, gw_of 444 rfl rfl⟩
set_option maxRecDepth 100000 in
theorem fX8_176 : FLK RX8 176 3 8 := ⟨by decide, by decide, by decide +kernel, gw_of 446 rfl rfl⟩
set_option maxRecDepth 100000 in
theorem fX8_179 : FLK RX8 179 3 9 := ⟨by decide, by decide, by decide +kernel, gw_of 448 rfl rfl⟩
set_option maxRecDepth 100000 in
theorem fX8_182 : FLK RX8 182 3 10 := ⟨by decide, by decide, by decide +kernel, gw_of 450 rfl rfl⟩
set_option maxRecDepth 100000 in
theorem fX8_185 : FLK RX8 185 3 11 := ⟨by decide, by decide, by decide +kernel, gw_of 452 rfl rfl⟩
set_option maxRecDepth 100000 in
theorem fX8_188 : FLK RX8 188 3 3 := ⟨by decide, by decide, by decide +kernel, gw_of 438 rfl rfl⟩
set_option maxRecDepth 100000 in
theorem fX8_191 : FLK RX8 191 3 1 := ⟨by decide, by decide, by decide +kernel, gw_of 434 rfl rfl⟩
set_option maxRecDepth 100000 in
theorem fX8_194 : FLK RX8 194 3 2 := ⟨by decide, by decide, by decide +kernel, gw_of 436 rfl rfl⟩
set_option maxRecDepth 100000 in
theorem fX8_197 : FLK RX8 197 3 4 := ⟨by decide, by decide, by decide +kernel, gw_of 440 rfl rfl⟩
set_option maxRecDepth 100000 in
theorem vX8_200 : SV RX8 200 mX2_wayCanGoTo 1 := ⟨sbX2_wayCanGoTo, gw_of 1082 rfl rfl, inX2_wayCanGoTo, seX2_wayCanGoTo⟩
set_option maxRecDepth 100000 in
theorem fX8_203 : FLK RX8 203 2 15 := ⟨by decide, by decide, by decide +kernel, gw_of 357 rfl rfl⟩
set_option maxRecDepth 100000 in
theorem fX8_206 : FLK RX8 206 2 9 := ⟨by decide, by decide, by decide +kernel, gw_of 334 rfl rfl⟩
set_option maxRecDepth 100000 in
theorem vX8_209 : SV RX8 209 mX2_countOnWay 2 := ⟨sbX2_countOnWay, gw_of 1094 rfl rfl, inX2_countOnWay, seX2_countOnWay⟩
set_option maxRecDepth 100000 in
theorem fX8_212 : FLK RX8 212 2 16 := ⟨by decide, by decide, by decide +kernel, gw_of 360 rfl rfl⟩
set_option maxRecDepth 100000 in
theorem vX8_215 : SV RX8 215 mX7_writeRoutine 2 := ⟨sbX7_writeRoutine, gw_of 1110 rfl rfl, inX7_writeRoutine, seX7_writeRoutine⟩
set_option maxRecDepth 100000 in
theorem fX8_218 : FLK RX8 218 7 3 := ⟨by decide, by decide, by decide +kernel, gw_of 490 rfl rfl⟩
set_option maxRecDepth 100000 in
theorem fX8_221 : FLK RX8 221 7 0 := ⟨by decide, by decide, by decide +kernel, gw_of 485 rfl rfl⟩
set_option maxRecDepth 100000 in
theorem fX8_225 : FLK RX8 225 7 2 := ⟨by decide, by decide, by decide +kernel, gw_of 488 rfl rfl⟩
set_option maxRecDepth 100000 in
theorem vX8_226 : SV RX8 226 mX5_hold 2 := ⟨sbX5_hold, gw_of 1189 rfl rfl, inX5_hold, seX5_hold⟩
set_option maxRecDepth 100000 in
theorem kX8_230 : Cond.constant RX8 230 (1000000000 : Int32) ∈ GW := gw_of 946 rfl rfl
set_option maxRecDepth 100000 in
theorem kX8_231 : Cond.constant RX8 231 (1000000016 : Int32) ∈ GW := gw_of 945 rfl rfl
set_option maxRecDepth 100000 in
theorem vX8_232 : SS RX8 232 mX8_isName 1 := ⟨sbX8_isName, gw_of 947 rfl rfl, stX8_isName⟩
set_option maxRecDepth 100000 in
theorem vX8_235 : SS RX8 235 mJ9_min_7cf53 2 := ⟨sbJ9_min_7cf53, gw_of 950 rfl rfl, stJ9_min_7cf53⟩
set_option maxRecDepth 100000 in
theorem vX8_240 : SS RX8 240 mJ9_max_7cf53 2 := ⟨sbJ9_max_7cf53, gw_of 951 rfl rfl, stJ9_max_7cf53⟩
set_option maxRecDepth 100000 in
theorem vX9_1 : Cond.methodLink RX9 1 objectInit ∈ GW := gw_of 1200 rfl rfl
set_option maxRecDepth 100000 in
theorem fX9_7 : FLK RX9 7 9 0 := ⟨by decide, by decide, by decide +kernel, gw_of 1203 rfl rfl⟩
set_option maxRecDepth 100000 in
theorem fX9_13 : FLK RX9 13 9 1 := ⟨by decide, by decide, by decide +kernel, gw_of 1204 rfl rfl⟩
set_option maxRecDepth 100000 in
theorem fX9_17 : FLK RX9 17 9 2 := ⟨by decide, by decide, by decide +kernel, gw_of 1205 rfl rfl⟩
set_option maxRecDepth 100000 in
theorem fX9_20 : FLK RX9 20 9 3 := ⟨by decide, by decide, by decide +kernel, gw_of 1206 rfl rfl⟩
set_option maxRecDepth 100000 in
theorem fX9_23 : FLK RX9 23 9 4 := ⟨by decide, by decide, by decide +kernel, gw_of 1207 rfl rfl⟩
set_option maxRecDepth 100000 in
theorem fX9_26 : FLK RX9 26 9 5 := ⟨by decide, by decide, by decide +kernel, gw_of 1208 rfl rfl⟩
set_option maxRecDepth 100000 in
theorem fX9_29 : FLK RX9 29 9 6 := ⟨by decide, by decide, by decide +kernel, gw_of 1209 rfl rfl⟩
set_option maxRecDepth 100000 in
theorem fX9_32 : FLK RX9 32 9 7 := ⟨by decide, by decide, by decide +kernel, gw_of 1210 rfl rfl⟩
set_option maxRecDepth 100000 in
theorem fX9_36 : FLK RX9 36 9 8 := ⟨by decide, by decide, by decide +kernel, gw_of 1211 rfl rfl⟩
set_option maxRecDepth 100000 in
theorem fX9_40 : FLK RX9 40 9 9 := ⟨by decide, by decide, by decide +kernel, gw_of 1212 rfl rfl⟩
set_option maxRecDepth 100000 in
theorem fX9_43 : FLK RX9 43 9 10 := ⟨by decide, by decide, by decide +kernel, gw_of 1213 rfl rfl⟩
set_option maxRecDepth 100000 in
theorem fX9_46 : FLK RX9 46 9 11 := ⟨by decide, by decide, by decide +kernel, gw_of 1214 rfl rfl⟩
set_option maxRecDepth 100000 in
theorem fX9_49 : FLK RX9 49 9 12 := ⟨by decide, by decide, by decide +kernel, gw_of 1215 rfl rfl⟩
set_option maxRecDepth 100000 in
theorem fX9_52 : FLK RX9 52 9 13 := ⟨by decide, by decide, by decide +kernel, gw_of 1216 rfl rfl⟩
set_option maxRecDepth 100000 in
theorem fX9_55 : FLK RX9 55 9 14 := ⟨by decide, by decide, by decide +kernel, gw_of 1217 rfl rfl⟩
set_option maxRecDepth 100000 in
theorem fX9_58 : FLK RX9 58 9 15 := ⟨by decide, by decide, by decide +kernel, gw_of 1218 rfl rfl⟩
set_option maxRecDepth 100000 in
theorem fX9_61 : FLK RX9 61 9 16 := ⟨by decide, by decide, by decide +kernel, gw_of 1219 rfl rfl⟩
set_option maxRecDepth 100000 in
theorem fX9_64 : FLK RX9 64 9 17 := ⟨by decide, by decide, by decide +kernel, gw_of 1220 rfl rfl⟩
set_option maxRecDepth 100000 in
theorem fX9_67 : FLK RX9 67 9 18 := ⟨by decide, by decide, by decide +kernel, gw_of 1221 rfl rfl⟩
set_option maxRecDepth 100000 in
theorem fX9_70 : FLK RX9 70 9 19 := ⟨by decide, by decide, by decide +kernel, gw_of 1222 rfl rfl⟩
set_option maxRecDepth 100000 in
theorem fX9_73 : FLK RX9 73 9 20 := ⟨by decide, by decide, by decide +kernel, gw_of 1223 rfl rfl⟩
set_option maxRecDepth 100000 in
theorem fX9_76 : FLK RX9 76 9 21 := ⟨by decide, by decide, by decide +kernel, gw_of 1224 rfl rfl⟩
set_option maxRecDepth 100000 in
theorem fX9_79 : FLK RX9 79 9 22 := ⟨by decide, by decide, by decide +kernel, gw_of 1225 rfl rfl⟩
set_option maxRecDepth 100000 in
theorem fX9_82 : FLK RX9 82 9 23 := ⟨by decide, by decide, by decide +kernel, gw_of 1226 rfl rfl⟩
set_option maxRecDepth 100000 in
theorem fX9_85 : FLK RX9 85 9 24 := ⟨by decide, by decide, by decide +kernel, gw_of 1227 rfl rfl⟩
set_option maxRecDepth 100000 in
theorem fX9_88 : FLK RX9 88 9 25 := ⟨by decide, by decide, by decide +kernel, gw_of 1228 rfl rfl⟩
set_option maxRecDepth 100000 in
theorem fX9_91 : FLK RX9 91 9 26 := ⟨by decide, by decide, by decide +kernel, gw_of 1229 rfl rfl⟩
set_option maxRecDepth 100000 in
theorem fX9_94 : FLK RX9 94 9 27 := ⟨by decide, by decide, by decide +kernel, gw_of 1230 rfl rfl⟩
set_option maxRecDepth 100000 in
theorem fX9_97 : FLK RX9 97 9 28 := ⟨by decide, by decide, by decide +kernel, gw_of 1231 rfl rfl⟩
set_option maxRecDepth 100000 in
theorem fX9_100 : FLK RX9 100 9 29 := ⟨by decide, by decide, by decide +kernel, gw_of 1232 rfl rfl⟩
set_option maxRecDepth 100000 in
theorem fX9_103 : FLK RX9 103 9 30 := ⟨by decide, by decide, by decide +kernel, gw_of 1233 rfl rfl⟩
set_option maxRecDepth 100000 in
theorem kX9_106 : Cond.constant RX9 106 (38400 : Int32) ∈ GW := gw_of 1201 rfl rfl
set_option maxRecDepth 100000 in
theorem fX9_107 : FLK RX9 107 9 31 := ⟨by decide, by decide, by decide +kernel, gw_of 1234 rfl rfl⟩
set_option maxRecDepth 100000 in
theorem fX9_110 : FLK RX9 110 9 32 := ⟨by decide, by decide, by decide +kernel, gw_of 1235 rfl rfl⟩
set_option maxRecDepth 100000 in
theorem fX9_113 : FLK RX9 113 9 33 := ⟨by decide, by decide, by decide +kernel, gw_of 1236 rfl rfl⟩
set_option maxRecDepth 100000 in
theorem fX9_116 : FLK RX9 116 9 34 := ⟨by decide, by decide, by decide +kernel, gw_of 1237 rfl rfl⟩
set_option maxRecDepth 100000 in
theorem fX9_119 : FLK RX9 119 9 35 := ⟨by decide, by decide, by decide +kernel, gw_of 1238 rfl rfl⟩
set_option maxRecDepth 100000 in
theorem fX9_122 : FLK RX9 122 9 36 := ⟨by decide, by decide, by decide +kernel, gw_of 1239 rfl rfl⟩
set_option maxRecDepth 100000 in
theorem fX9_125 : FLK RX9 125 9 37 := ⟨by decide, by decide, by decide +kernel, gw_of 1240 rfl rfl⟩
set_option maxRecDepth 100000 in
theorem fX9_128 : FLK RX9 128 9 38 := ⟨by decide, by decide, by decide +kernel, gw_of 1241 rfl rfl⟩
set_option maxRecDepth 100000 in
theorem fX9_132 : FLK RX9 132 9 39 := ⟨by decide, by decide, by decide +kernel, gw_of 1242 rfl rfl⟩
set_option maxRecDepth 100000 in
theorem fX9_135 : FLK RX9 135 9 40 := ⟨by decide, by decide, by decide +kernel, gw_of 1243 rfl rfl⟩
set_option maxRecDepth 100000 in
theorem fX9_138 : FLK RX9 138 9 41 := ⟨by decide, by decide, by decide +kernel, gw_of 1244 rfl rfl⟩
set_option maxRecDepth 100000 in
theorem fX9_141 : FLK RX9 141 9 42 := ⟨by decide, by decide, by decide +kernel, gw_of 1245 rfl rfl⟩
set_option maxRecDepth 100000 in
theorem fX9_144 : FLK RX9 144 9 43 := ⟨by decide, by decide, by decide +kernel, gw_of 1246 rfl rfl⟩
set_option maxRecDepth 100000 in
theorem fX9_147 : FLK RX9 147 9 44 := ⟨by decide, by decide, by decide +kernel, gw_of 1247 rfl rfl⟩
set_option maxRecDepth 100000 in
theorem fX9_150 : FLK RX9 150 9 45 := ⟨by decide, by decide, by decide +kernel, gw_of 1248 rfl rfl⟩
set_option maxRecDepth 100000 in
theorem fX9_153 : FLK RX9 153 9 46 := ⟨by decide, by decide, by decide +kernel, gw_of 1249 rfl rfl⟩
set_option maxRecDepth 100000 in
theorem fX9_156 : FLK RX9 156 9 47 := ⟨by decide, by decide, by decide +kernel, gw_of 1250 rfl rfl⟩
set_option maxRecDepth 100000 in
theorem fX9_159 : FLK RX9 159 9 48 := ⟨by decide, by decide, by decide +kernel, gw_of 1251 rfl rfl⟩
set_option maxRecDepth 100000 in
theorem fX9_162 : FLK RX9 162 9 49 := ⟨by decide, by decide, by decide +kernel, gw_of 1252 rfl rfl⟩
set_option maxRecDepth 100000 in
theorem fX9_165 : FLK RX9 165 9 50 := ⟨by decide, by decide, by decide +kernel, gw_of 1253 rfl rfl⟩
set_option maxRecDepth 100000 in
theorem fX9_168 : FLK RX9 168 9 51 := ⟨by decide, by decide, by decide +kernel, gw_of 1254 rfl rfl⟩
set_option maxRecDepth 100000 in
theorem fX9_171 : FLK RX9 171 9 52 := ⟨by decide, by decide, by decide +kernel, gw_of 1255 rfl rfl⟩
set_option maxRecDepth 100000 in
theorem fX9_174 : FLK RX9 174 9 53 := ⟨by decide, by decide, by decide +kernel, gw_of 1256 rfl rfl⟩
set_option maxRecDepth 100000 in
theorem fX9_177 : FLK RX9 177 9 54 := ⟨by decide, by decide, by decide +kernel, gw_of 1257 rfl rfl⟩
set_option maxRecDepth 100000 in
theorem fX9_180 : FLK RX9 180 9 55 := ⟨by decide, by decide, by decide +kernel, gw_of 1258 rfl rfl⟩
set_option maxRecDepth 100000 in
theorem fX9_183 : FLK RX9 183 9 56 := ⟨by decide, by decide, by decide +kernel, gw_of 1259 rfl rfl⟩
set_option maxRecDepth 100000 in
theorem fX9_186 : FLK RX9 186 9 57 := ⟨by decide, by decide, by decide +kernel, gw_of 1260 rfl rfl⟩
set_option maxRecDepth 100000 in
theorem fX9_189 : FLK RX9 189 9 58 := ⟨by decide, by decide, by decide +kernel, gw_of 1261 rfl rfl⟩
set_option maxRecDepth 100000 in
theorem kX9_192 : Cond.constant RX9 192 (60000 : Int32) ∈ GW := gw_of 1202 rfl rfl
set_option maxRecDepth 100000 in
theorem fX9_193 : FLK RX9 193 9 59 := ⟨by decide, by decide, by decide +kernel, gw_of 1262 rfl rfl⟩
set_option maxRecDepth 100000 in
theorem fX9_196 : FLK RX9 196 9 60 := ⟨by decide, by decide, by decide +kernel, gw_of 1263 rfl rfl⟩
set_option maxRecDepth 100000 in
theorem fX9_199 : FLK RX9 199 9 61 := ⟨by decide, by decide, by decide +kernel, gw_of 1264 rfl rfl⟩
set_option maxRecDepth 100000 in
theorem kX9_202 : Cond.constantLong RX9 202 (255 : Int64) ∈ GW := gw_of 1395 rfl rfl
set_option maxRecDepth 100000 in
theorem vX9_204 : SV RX9 204 mX9_at 1 := ⟨sbX9_at, gw_of 1412 rfl rfl, inX9_at, seX9_at⟩
set_option maxRecDepth 100000 in
theorem vX9_208 : SV RX9 208 mX9_isLetter 1 := ⟨sbX9_isLetter, gw_of 1416 rfl rfl, inX9_isLetter, seX9_isLetter⟩
set_option maxRecDepth 100000 in
theorem vX9_212 : SV RX9 212 mX9_isDigit 1 := ⟨sbX9_isDigit, gw_of 1420 rfl rfl, inX9_isDigit, seX9_isDigit⟩
set_option maxRecDepth 100000 in
theorem vX9_215 : SV RX9 215 mX9_word 0 := ⟨sbX9_word, gw_of 1424 rfl rfl, inX9_word, seX9_word⟩
set_option maxRecDepth 100000 in
theorem vX9_218 : SV RX9 218 mX9_number 0 := ⟨sbX9_number, gw_of 1430 rfl rfl, inX9_number, seX9_number⟩
set_option maxRecDepth 100000 in
theorem kX9_221 : Cond.constantLong RX9 221 (10 : Int64) ∈ GW := gw_of 1428 rfl rfl
set_option maxRecDepth 100000 in
theorem kX9_223 : Cond.constantLong RX9 223 (48 : Int64) ∈ GW := gw_of 1429 rfl rfl
set_option maxRecDepth 100000 in
theorem vX9_225 : SV RX9 225 mX9_numbered 2 := ⟨sbX9_numbered, gw_of 1442 rfl rfl, inX9_numbered, seX9_numbered⟩
set_option maxRecDepth 100000 in
theorem vX9_229 : SV RX9 229 mX9_isSign 1 := ⟨sbX9_isSign, gw_of 1450 rfl rfl, inX9_isSign, seX9_isSign⟩
set_option maxRecDepth 100000 in
theorem vX9_232 : SV RX9 232 mX9_must 2 := ⟨sbX9_must, gw_of 1434 rfl rfl, inX9_must, seX9_must⟩
set_option maxRecDepth 100000 in
theorem vX9_236 : SV RX9 236 mX9_next 0 := ⟨sbX9_next, gw_of 1408 rfl rfl, inX9_next, seX9_next⟩
set_option maxRecDepth 100000 in
theorem vX9_239 : SV RX9 239 mX9_named 0 := ⟨sbX9_named, gw_of 1462 rfl rfl, inX9_named, seX9_named⟩
set_option maxRecDepth 100000 in
theorem kX9_243 : Cond.constantLong RX9 243 (1952803948 : Int64) ∈ GW := gw_of 1466 rfl rfl
set_option maxRecDepth 100000 in
theorem vX9_245 : SV RX9 245 mX9_isWord 1 := ⟨sbX9_isWord, gw_of 1467 rfl rfl, inX9_isWord, seX9_isWord⟩
set_option maxRecDepth 100000 in
theorem kX9_249 : Cond.constantLong RX9 249 (26479 : Int64) ∈ GW := gw_of 1471 rfl rfl
set_option maxRecDepth 100000 in
theorem kX9_251 : Cond.constantLong RX9 251 (26982 : Int64) ∈ GW := gw_of 1472 rfl rfl
set_option maxRecDepth 100000 in
theorem kX9_253 : Cond.constantLong RX9 253 (465557354085 : Int64) ∈ GW := gw_of 1473 rfl rfl
set_option maxRecDepth 100000 in
theorem vX9_255 : SV RX9 255 mX9_mayBegin 0 := ⟨sbX9_mayBegin, gw_of 1458 rfl rfl, inX9_mayBegin, seX9_mayBegin⟩
set_option maxRecDepth 100000 in
theorem vX9_259 : SV RX9 259 mX9_assigned 2 := ⟨sbX9_assigned, gw_of 1474 rfl rfl, inX9_assigned, seX9_assigned⟩
set_option maxRecDepth 100000 in
theorem vX9_263 : SV RX9 263 mX9_put 2 := ⟨sbX9_put, gw_of 1494 rfl rfl, inX9_put, seX9_put⟩
set_option maxRecDepth 100000 in
theorem vX9_266 : SV RX9 266 mX9_tell 1 := ⟨sbX9_tell, gw_of 1502 rfl rfl, inX9_tell, seX9_tell⟩
set_option maxRecDepth 100000 in
theorem vX9_270 : SV RX9 270 mX9_go 1 := ⟨sbX9_go, gw_of 1506 rfl rfl, inX9_go, seX9_go⟩
set_option maxRecDepth 100000 in
theorem vX9_273 : SV RX9 273 mX9_test 1 := ⟨sbX9_test, gw_of 1514 rfl rfl, inX9_test, seX9_test⟩
set_option maxRecDepth 100000 in
theorem vX9_276 : SV RX9 276 mX9_leave 1 := ⟨sbX9_leave, gw_of 1518 rfl rfl, inX9_leave, seX9_leave⟩
set_option maxRecDepth 100000 in
theorem vX9_279 : SV RX9 279 mX9_take 1 := ⟨sbX9_take, gw_of 1446 rfl rfl, inX9_take, seX9_take⟩
set_option maxRecDepth 100000 in
theorem vX9_282 : SV RX9 282 mX9_block 0 := ⟨sbX9_block, gw_of 1510 rfl rfl, inX9_block, seX9_block⟩
set_option maxRecDepth 100000 in
theorem vX9_285 : SV RX9 285 mX9_first 1 := ⟨sbX9_first, gw_of 1486 rfl rfl, inX9_first, seX9_first⟩
set_option maxRecDepth 100000 in
theorem vX9_288 : SV RX9 288 mX9_second 1 := ⟨sbX9_second, gw_of 1498 rfl rfl, inX9_second, seX9_second⟩
set_option maxRecDepth 100000 in
theorem vX9_291 : SV RX9 291 mX9_operand 0 := ⟨sbX9_operand, gw_of 1478 rfl rfl, inX9_operand, seX9_operand⟩
set_option maxRecDepth 100000 in
theorem vX9_294 : SV RX9 294 mX9_summed 6 := ⟨sbX9_summed, gw_of 1482 rfl rfl, inX9_summed, seX9_summed⟩
set_option maxRecDepth 100000 in
theorem vX9_298 : SV RX9 298 mX9_isOp 0 := ⟨sbX9_isOp, gw_of 1490 rfl rfl, inX9_isOp, seX9_isOp⟩
set_option maxRecDepth 100000 in
theorem vX9_301 : SV RX9 301 mX9_statement 0 := ⟨sbX9_statement, gw_of 1454 rfl rfl, inX9_statement, seX9_statement⟩
set_option maxRecDepth 100000 in
theorem vX9_304 : SV RX9 304 mX9_readBlock 0 := ⟨sbX9_readBlock, gw_of 1438 rfl rfl, inX9_readBlock, seX9_readBlock⟩
set_option maxRecDepth 100000 in
theorem vX9_307 : SV RX9 307 mX9_ends 0 := ⟨sbX9_ends, gw_of 1522 rfl rfl, inX9_ends, seX9_ends⟩
set_option maxRecDepth 100000 in
theorem vX9_310 : SV RX9 310 mX9_lead 0 := ⟨sbX9_lead, gw_of 1538 rfl rfl, inX9_lead, seX9_lead⟩
set_option maxRecDepth 100000 in
theorem vX9_313 : SV RX9 313 mX9_settle 1 := ⟨sbX9_settle, gw_of 1550 rfl rfl, inX9_settle, seX9_settle⟩
set_option maxRecDepth 100000 in
theorem vX9_316 : SV RX9 316 mX9_copy 1 := ⟨sbX9_copy, gw_of 1602 rfl rfl, inX9_copy, seX9_copy⟩
set_option maxRecDepth 100000 in
theorem vX9_319 : SV RX9 319 mX9_fault 2 := ⟨sbX9_fault, gw_of 1526 rfl rfl, inX9_fault, seX9_fault⟩
set_option maxRecDepth 100000 in
theorem vX9_322 : SV RX9 322 mX9_lastNode 1 := ⟨sbX9_lastNode, gw_of 1530 rfl rfl, inX9_lastNode, seX9_lastNode⟩
set_option maxRecDepth 100000 in
theorem vX9_325 : SV RX9 325 mX9_mark 1 := ⟨sbX9_mark, gw_of 1534 rfl rfl, inX9_mark, seX9_mark⟩
set_option maxRecDepth 100000 in
theorem vX9_328 : SV RX9 328 mX9_waysTo 1 := ⟨sbX9_waysTo, gw_of 1542 rfl rfl, inX9_waysTo, seX9_waysTo⟩
set_option maxRecDepth 100000 in
theorem vX9_331 : SV RX9 331 mX9_through 1 := ⟨sbX9_through, gw_of 1546 rfl rfl, inX9_through, seX9_through⟩
set_option maxRecDepth 100000 in
theorem vX9_334 : SV RX9 334 mX9_isBold 2 := ⟨sbX9_isBold, gw_of 1578 rfl rfl, inX9_isBold, seX9_isBold⟩
set_option maxRecDepth 100000 in
theorem vX9_338 : SV RX9 338 mX9_base 2 := ⟨sbX9_base, gw_of 1554 rfl rfl, inX9_base, seX9_base⟩
set_option maxRecDepth 100000 in
theorem vX9_341 : SV RX9 341 mX9_kills 2 := ⟨sbX9_kills, gw_of 1558 rfl rfl, inX9_kills, seX9_kills⟩
set_option maxRecDepth 100000 in
theorem vX9_344 : SV RX9 344 mX9_narrow 2 := ⟨sbX9_narrow, gw_of 1562 rfl rfl, inX9_narrow, seX9_narrow⟩
set_option maxRecDepth 100000 in
theorem vX9_347 : SV RX9 347 mX9_is 3 := ⟨sbX9_is, gw_of 1566 rfl rfl, inX9_is, seX9_is⟩
set_option maxRecDepth 100000 in
theorem vX9_351 : SV RX9 351 mX9_anyAhead 2 := ⟨sbX9_anyAhead, gw_of 1598 rfl rfl, inX9_anyAhead, seX9_anyAhead⟩
set_option maxRecDepth 100000 in
theorem vX9_354 : SV RX9 354 mX9_allNext 3 := ⟨sbX9_allNext, gw_of 1574 rfl rfl, inX9_allNext, seX9_allNext⟩
set_option maxRecDepth 100000 in
theorem vX9_357 : SV RX9 357 mX9_holds 4 := ⟨sbX9_holds, gw_of 1570 rfl rfl, inX9_holds, seX9_holds⟩
set_option maxRecDepth 100000 in
theorem vX9_361 : SV RX9 361 mX9_isSeen 1 := ⟨sbX9_isSeen, gw_of 1582 rfl rfl, inX9_isSeen, seX9_isSeen⟩
set_option maxRecDepth 100000 in
theorem vX9_364 : SV RX9 364 mX9_allAhead 3 := ⟨sbX9_allAhead, gw_of 1586 rfl rfl, inX9_allAhead, seX9_allAhead⟩
set_option maxRecDepth 100000 in
theorem vX9_367 : SV RX9 367 mX9_isAloneNext 2 := ⟨sbX9_isAloneNext, gw_of 1594 rfl rfl, inX9_isAloneNext, seX9_isAloneNext⟩
set_option maxRecDepth 100000 in
theorem vX9_370 : SV RX9 370 mX9_leads 2 := ⟨sbX9_leads, gw_of 1590 rfl rfl, inX9_leads, seX9_leads⟩
set_option maxRecDepth 100000 in
theorem vX9_373 : SV RX9 373 mX9_isThere 1 := ⟨sbX9_isThere, gw_of 1614 rfl rfl, inX9_isThere, seX9_isThere⟩
set_option maxRecDepth 100000 in
theorem vX9_379 : SV RX9 379 mX9_coded 2 := ⟨sbX9_coded, gw_of 1630 rfl rfl, inX9_coded, seX9_coded⟩
set_option maxRecDepth 100000 in
theorem vX9_376 : SV RX9 376 mX9_isSum 2 := ⟨sbX9_isSum, gw_of 1626 rfl rfl, inX9_isSum, seX9_isSum⟩
set_option maxRecDepth 100000 in
theorem vX9_382 : SV RX9 382 mX9_isSet 4 := ⟨sbX9_isSet, gw_of 1646 rfl rfl, inX9_isSet, seX9_isSet⟩
set_option maxRecDepth 100000 in
theorem vX9_385 : SV RX9 385 mX9_isTaken 4 := ⟨sbX9_isTaken, gw_of 1650 rfl rfl, inX9_isTaken, seX9_isTaken⟩
set_option maxRecDepth 100000 in
theorem vX9_388 : SV RX9 388 mX9_isPlacing 1 := ⟨sbX9_isPlacing, gw_of 1642 rfl rfl, inX9_isPlacing, seX9_isPlacing⟩
set_option maxRecDepth 100000 in
theorem vX9_391 : SV RX9 391 mX9_live 3 := ⟨sbX9_live, gw_of 1654 rfl rfl, inX9_live, seX9_live⟩
set_option maxRecDepth 100000 in
theorem vX9_395 : SV RX9 395 mX9_of 2 := ⟨sbX9_of, gw_of 1682 rfl rfl, inX9_of, seX9_of⟩
set_option maxRecDepth 100000 in
theorem vX9_398 : SV RX9 398 mX9_step 4 := ⟨sbX9_step, gw_of 1674 rfl rfl, inX9_step, seX9_step⟩
set_option maxRecDepth 100000 in
theorem vX9_402 : SV RX9 402 mX9_work 2 := ⟨sbX9_work, gw_of 1678 rfl rfl, inX9_work, seX9_work⟩
set_option maxRecDepth 100000 in
theorem vX9_405 : SV RX9 405 mX9_end 2 := ⟨sbX9_end, gw_of 1710 rfl rfl, inX9_end, seX9_end⟩
set_option maxRecDepth 100000 in
theorem vX9_408 : SV RX9 408 mX9_passes 3 := ⟨sbX9_passes, gw_of 1714 rfl rfl, inX9_passes, seX9_passes⟩
set_option maxRecDepth 100000 in
theorem vX9_412 : SV RX9 412 mX9_worksAt 4 := ⟨sbX9_worksAt, gw_of 1726 rfl rfl, inX9_worksAt, seX9_worksAt⟩
set_option maxRecDepth 100000 in
theorem vX9_415 : SV RX9 415 mX9_say 1 := ⟨sbX9_say, gw_of 1750 rfl rfl, inX9_say, seX9_say⟩
set_option maxRecDepth 100000 in
theorem kX9_418 : Cond.constantLong RX9 418 (9 : Int64) ∈ GW := gw_of 1758 rfl rfl
set_option maxRecDepth 100000 in
theorem vX9_420 : SV RX9 420 mX9_sayNumber 1 := ⟨sbX9_sayNumber, gw_of 1754 rfl rfl, inX9_sayNumber, seX9_sayNumber⟩
set_option maxRecDepth 100000 in
theorem vX9_423 : SV RX9 423 mX9_sayOperand 2 := ⟨sbX9_sayOperand, gw_of 1783 rfl rfl, inX9_sayOperand, seX9_sayOperand⟩
set_option maxRecDepth 100000 in
theorem vX9_426 : SV RX9 426 mX9_sayRow 3 := ⟨sbX9_sayRow, gw_of 1779 rfl rfl, inX9_sayRow, seX9_sayRow⟩
set_option maxRecDepth 100000 in
theorem vX9_429 : SV RX9 429 mX9_sayBlock 1 := ⟨sbX9_sayBlock, gw_of 1746 rfl rfl, inX9_sayBlock, seX9_sayBlock⟩
set_option maxRecDepth 100000 in
theorem vX9_432 : SV RX9 432 mX9_begin 0 := ⟨sbX9_begin, gw_of 1763 rfl rfl, inX9_begin, seX9_begin⟩
set_option maxRecDepth 100000 in
theorem vX9_435 : SV RX9 435 mX9_sayT 1 := ⟨sbX9_sayT, gw_of 1767 rfl rfl, inX9_sayT, seX9_sayT⟩
set_option maxRecDepth 100000 in
theorem vX9_438 : SV RX9 438 mX9_is_ 0 := ⟨sbX9_is_, gw_of 1771 rfl rfl, inX9_is_, seX9_is_⟩
set_option maxRecDepth 100000 in
theorem vX9_440 : SV RX9 440 mX9_saySum 2 := ⟨sbX9_saySum, gw_of 1775 rfl rfl, inX9_saySum, seX9_saySum⟩
set_option maxRecDepth 100000 in
theorem vX9_443 : SV RX9 443 mX9_close 0 := ⟨sbX9_close, gw_of 1787 rfl rfl, inX9_close, seX9_close⟩
set_option maxRecDepth 100000 in
theorem vX9_446 : SV RX9 446 mX9_asBlock 2 := ⟨sbX9_asBlock, gw_of 1795 rfl rfl, inX9_asBlock, seX9_asBlock⟩
set_option maxRecDepth 100000 in
theorem vX9_448 : SV RX9 448 mX9_sayGo 1 := ⟨sbX9_sayGo, gw_of 1799 rfl rfl, inX9_sayGo, seX9_sayGo⟩
set_option maxRecDepth 100000 in
theorem vX9_451 : SV RX9 451 mX9_hasT 1 := ⟨sbX9_hasT, gw_of 1734 rfl rfl, inX9_hasT, seX9_hasT⟩
set_option maxRecDepth 100000 in
theorem vX9_454 : SV RX9 454 mX9_sets 3 := ⟨sbX9_sets, gw_of 1738 rfl rfl, inX9_sets, seX9_sets⟩
set_option maxRecDepth 100000 in
theorem vX9_457 : SV RX9 457 mX9_head 1 := ⟨sbX9_head, gw_of 1742 rfl rfl, inX9_head, seX9_head⟩
set_option maxRecDepth 100000 in
theorem vX9_460 : SV RX9 460 mX9_saySets 3 := ⟨sbX9_saySets, gw_of 1759 rfl rfl, inX9_saySets, seX9_saySets⟩
set_option maxRecDepth 100000 in
theorem vX9_463 : SV RX9 463 mX9_sayNode 3 := ⟨sbX9_sayNode, gw_of 1791 rfl rfl, inX9_sayNode, seX9_sayNode⟩
set_option maxRecDepth 100000 in
theorem vX0_3 : Cond.methodLink RX0 3 objectInit ∈ GW := gw_of 264 rfl rfl
set_option maxRecDepth 100000 in
theorem fX0_9 : FLK RX0 9 0 0 := ⟨by decide, by decide, by decide +kernel, gw_of 265 rfl rfl⟩
set_option maxRecDepth 100000 in
theorem fX0_15 : FLK RX0 15 0 1 := ⟨by decide, by decide, by decide +kernel, gw_of 266 rfl rfl⟩
set_option maxRecDepth 100000 in
theorem fX0_18 : FLK RX0 18 0 2 := ⟨by decide, by decide, by decide +kernel, gw_of 267 rfl rfl⟩
set_option maxRecDepth 100000 in
theorem fX0_21 : FLK RX0 21 0 3 := ⟨by decide, by decide, by decide +kernel, gw_of 268 rfl rfl⟩
set_option maxRecDepth 100000 in
theorem fX0_24 : FLK RX0 24 0 4 := ⟨by decide, by decide, by decide +kernel, gw_of 269 rfl rfl⟩
set_option maxRecDepth 100000 in
theorem fX0_27 : FLK RX0 27 0 5 := ⟨by decide, by decide, by decide +kernel, gw_of 270 rfl rfl⟩
set_option maxRecDepth 100000 in
theorem fX0_30 : FLK RX0 30 0 6 := ⟨by decide, by decide, by decide +kernel, gw_of 271 rfl rfl⟩
set_option maxRecDepth 100000 in
theorem fX0_33 : FLK RX0 33 0 7 := ⟨by decide, by decide, by decide +kernel, gw_of 272 rfl rfl⟩
set_option maxRecDepth 100000 in
theorem fX0_36 : FLK RX0 36 0 8 := ⟨by decide, by decide, by decide +kernel, gw_of 273 rfl rfl⟩
set_option maxRecDepth 100000 in
theorem fX0_39 : FLK RX0 39 0 9 := ⟨by decide, by decide, by decide +kernel, gw_of 274 rfl rfl⟩
set_option maxRecDepth 100000 in
theorem fX0_42 : FLK RX0 42 2 10 := ⟨by decide, by decide, by decide +kernel, gw_of 336 rfl rfl⟩
set_option maxRecDepth 100000 in
theorem vX0_48 : SV RX0 48 mX4_everyOne 0 := ⟨sbX4_everyOne, gw_of 839 rfl rfl, inX4_everyOne, seX4_everyOne⟩
set_option maxRecDepth 100000 in
theorem fX0_54 : FLK RX0 54 0 10 := ⟨by decide, by decide, by decide +kernel, gw_of 275 rfl rfl⟩
set_option maxRecDepth 100000 in
theorem fX0_58 : FLK RX0 58 2 14 := ⟨by decide, by decide, by decide +kernel, gw_of 352 rfl rfl⟩
set_option maxRecDepth 100000 in
theorem vX0_61 : SV RX0 61 mX0_findWorksAndKills 2 := ⟨sbX0_findWorksAndKills, gw_of 843 rfl rfl, inX0_findWorksAndKills, seX0_findWorksAndKills⟩
set_option maxRecDepth 100000 in
theorem vX0_65 : SV RX0 65 mX0_findWanted 1 := ⟨sbX0_findWanted, gw_of 856 rfl rfl, inX0_findWanted, seX0_findWanted⟩
set_option maxRecDepth 100000 in
theorem vX0_69 : SV RX0 69 mX0_findThere 1 := ⟨sbX0_findThere, gw_of 877 rfl rfl, inX0_findThere, seX0_findThere⟩
set_option maxRecDepth 100000 in
theorem vX0_72 : SV RX0 72 mX0_findEarly 1 := ⟨sbX0_findEarly, gw_of 885 rfl rfl, inX0_findEarly, seX0_findEarly⟩
set_option maxRecDepth 100000 in
theorem vX0_75 : SV RX0 75 mX0_findDelayed 1 := ⟨sbX0_findDelayed, gw_of 889 rfl rfl, inX0_findDelayed, seX0_findDelayed⟩
set_option maxRecDepth 100000 in
theorem vX0_78 : SV RX0 78 mX0_allNext 3 := ⟨sbX0_allNext, gw_of 873 rfl rfl, inX0_allNext, seX0_allNext⟩
set_option maxRecDepth 100000 in
theorem vX0_82 : SV RX0 82 mX0_findAlone 1 := ⟨sbX0_findAlone, gw_of 893 rfl rfl, inX0_findAlone, seX0_findAlone⟩
set_option maxRecDepth 100000 in
theorem vX0_85 : SV RX0 85 mX0_findAlive 3 := ⟨sbX0_findAlive, gw_of 897 rfl rfl, inX0_findAlive, seX0_findAlive⟩
set_option maxRecDepth 100000 in
theorem vX0_89 : SV RX0 89 mX0_setAhead 2 := ⟨sbX0_setAhead, gw_of 901 rfl rfl, inX0_setAhead, seX0_setAhead⟩
set_option maxRecDepth 100000 in
theorem vX0_93 : SV RX0 93 mX0_taken 2 := ⟨sbX0_taken, gw_of 905 rfl rfl, inX0_taken, seX0_taken⟩
set_option maxRecDepth 100000 in
theorem fX0_96 : FLK RX0 96 2 4 := ⟨by decide, by decide, by decide +kernel, gw_of 319 rfl rfl⟩
set_option maxRecDepth 100000 in
theorem fX0_99 : FLK RX0 99 2 0 := ⟨by decide, by decide, by decide +kernel, gw_of 302 rfl rfl⟩
set_option maxRecDepth 100000 in
theorem fX0_102 : FLK RX0 102 2 2 := ⟨by decide, by decide, by decide +kernel, gw_of 311 rfl rfl⟩
set_option maxRecDepth 100000 in
theorem vX0_105 : SV RX0 105 mX4_withName 1 := ⟨sbX4_withName, gw_of 847 rfl rfl, inX4_withName, seX4_withName⟩
set_option maxRecDepth 100000 in
theorem vX0_109 : SV RX0 109 mX4_ofRow 1 := ⟨sbX4_ofRow, gw_of 852 rfl rfl, inX4_ofRow, seX4_ofRow⟩
set_option maxRecDepth 100000 in
theorem vX0_112 : SV RX0 112 mX4_boldOnes 0 := ⟨sbX4_boldOnes, gw_of 860 rfl rfl, inX4_boldOnes, seX4_boldOnes⟩
set_option maxRecDepth 100000 in
theorem vX0_115 : SS RX0 115 mJ7_fill_53178 2 := ⟨sbJ7_fill_53178, gw_of 868 rfl rfl, stJ7_fill_53178⟩
set_option maxRecDepth 100000 in
theorem vX0_121 : SV RX0 121 mX0_isSeen 3 := ⟨sbX0_isSeen, gw_of 869 rfl rfl, inX0_isSeen, seX0_isSeen⟩
set_option maxRecDepth 100000 in
theorem vX0_125 : SV RX0 125 mX0_keepInNext 5 := ⟨sbX0_keepInNext, gw_of 881 rfl rfl, inX0_keepInNext, seX0_keepInNext⟩
set_option maxRecDepth 100000 in
theorem fX0_129 : FLK RX0 129 2 6 := ⟨by decide, by decide, by decide +kernel, gw_of 327 rfl rfl⟩
set_option maxRecDepth 100000 in
theorem vX0_133 : SV RX0 133 mX0_anyNext 3 := ⟨sbX0_anyNext, gw_of 909 rfl rfl, inX0_anyNext, seX0_anyNext⟩
set_option maxRecDepth 100000 in
theorem vX1_3 : Cond.methodLink RX1 3 objectInit ∈ GW := gw_of 190 rfl rfl
set_option maxRecDepth 100000 in
theorem nX1_9 : Cond.classLink RX1 9 RX6 ∈ GW := gw_of 191 rfl rfl
set_option maxRecDepth 100000 in
theorem vX1_11 : SIN RX1 "LateAndEarly" 11 mX6_init 0 := ⟨sbX6_init, List.mem_of_getElem? (i := 193) rfl, inX6_init, rfl, rfl⟩
set_option maxRecDepth 100000 in
theorem fX1_12 : FLK RX1 12 1 0 := ⟨by decide, by decide, by decide +kernel, gw_of 396 rfl rfl⟩
set_option maxRecDepth 100000 in
theorem fX1_18 : FLK RX1 18 1 1 := ⟨by decide, by decide, by decide +kernel, gw_of 397 rfl rfl⟩
set_option maxRecDepth 100000 in
theorem nX1_22 : Cond.classLink RX1 22 "[[I" ∈ GW := gw_of 215 rfl rfl
set_option maxRecDepth 100000 in
theorem fX1_24 : FLK RX1 24 1 2 := ⟨by decide, by decide, by decide +kernel, gw_of 398 rfl rfl⟩
set_option maxRecDepth 100000 in
theorem nX1_27 : Cond.classLink RX1 27 RX2 ∈ GW := gw_of 217 rfl rfl
set_option maxRecDepth 100000 in
theorem vX1_29 : SIN RX1 "LateAndEarly" 29 mX2_init 0 := ⟨sbX2_init, List.mem_of_getElem? (i := 219) rfl, inX2_init, rfl, rfl⟩
set_option maxRecDepth 100000 in
theorem fX1_30 : FLK RX1 30 1 5 := ⟨by decide, by decide, by decide +kernel, gw_of 401 rfl rfl⟩
set_option maxRecDepth 100000 in
theorem vX1_34 : SV RX1 34 mX6_scan 1 := ⟨sbX6_scan, gw_of 547 rfl rfl, inX6_scan, seX6_scan⟩
set_option maxRecDepth 100000 in
theorem fX1_38 : FLK RX1 38 1 3 := ⟨by decide, by decide, by decide +kernel, gw_of 399 rfl rfl⟩
set_option maxRecDepth 100000 in
theorem fX1_42 : FLK RX1 42 1 6 := ⟨by decide, by decide, by decide +kernel, gw_of 403 rfl rfl⟩
set_option maxRecDepth 100000 in
theorem vX1_45 : SV RX1 45 mX2_clear 0 := ⟨sbX2_clear, gw_of 715 rfl rfl, inX2_clear, seX2_clear⟩
set_option maxRecDepth 100000 in
theorem vX1_48 : SV RX1 48 mX1_isNow 1 := ⟨sbX1_isNow, gw_of 723 rfl rfl, inX1_isNow, seX1_isNow⟩
set_option maxRecDepth 100000 in
theorem vX1_52 : SV RX1 52 mX1_readBlock 1 := ⟨sbX1_readBlock, gw_of 727 rfl rfl, inX1_readBlock, seX1_readBlock⟩
set_option maxRecDepth 100000 in
theorem vX1_55 : SV RX1 55 mX1_refuse 1 := ⟨sbX1_refuse, gw_of 731 rfl rfl, inX1_refuse, seX1_refuse⟩
set_option maxRecDepth 100000 in
theorem vX1_58 : SV RX1 58 mX1_areNamedBlocksThere 0 := ⟨sbX1_areNamedBlocksThere, gw_of 782 rfl rfl, inX1_areNamedBlocksThere, seX1_areNamedBlocksThere⟩
set_option maxRecDepth 100000 in
theorem vX1_62 : SV RX1 62 mX2_blocksComeTo 0 := ⟨sbX2_blocksComeTo, gw_of 795 rfl rfl, inX2_blocksComeTo, seX2_blocksComeTo⟩
set_option maxRecDepth 100000 in
theorem vX1_66 : SV RX1 66 mX1_areAllIn 2 := ⟨sbX1_areAllIn, gw_of 804 rfl rfl, inX1_areAllIn, seX1_areAllIn⟩
set_option maxRecDepth 100000 in
theorem vX1_70 : SV RX1 70 mX2_blocksThatLeave 0 := ⟨sbX2_blocksThatLeave, gw_of 808 rfl rfl, inX2_blocksThatLeave, seX2_blocksThatLeave⟩
set_option maxRecDepth 100000 in
theorem fX1_73 : FLK RX1 73 6 1 := ⟨by decide, by decide, by decide +kernel, gw_of 200 rfl rfl⟩
set_option maxRecDepth 100000 in
theorem fX1_76 : FLK RX1 76 6 2 := ⟨by decide, by decide, by decide +kernel, gw_of 202 rfl rfl⟩
set_option maxRecDepth 100000 in
theorem vX1_79 : SV RX1 79 mX2_addBlock 0 := ⟨sbX2_addBlock, gw_of 735 rfl rfl, inX2_addBlock, seX2_addBlock⟩
set_option maxRecDepth 100000 in
theorem vX1_82 : SV RX1 82 mX1_takeSign 1 := ⟨sbX1_takeSign, gw_of 739 rfl rfl, inX1_takeSign, seX1_takeSign⟩
set_option maxRecDepth 100000 in
theorem vX1_85 : SV RX1 85 mX1_kindThatBegins 0 := ⟨sbX1_kindThatBegins, gw_of 743 rfl rfl, inX1_kindThatBegins, seX1_kindThatBegins⟩
set_option maxRecDepth 100000 in
theorem fX1_89 : FLK RX1 89 2 13 := ⟨by decide, by decide, by decide +kernel, gw_of 350 rfl rfl⟩
set_option maxRecDepth 100000 in
theorem vX1_92 : SV RX1 92 mX1_readStatement 1 := ⟨sbX1_readStatement, gw_of 747 rfl rfl, inX1_readStatement, seX1_readStatement⟩
set_option maxRecDepth 100000 in
theorem fX1_95 : FLK RX1 95 2 12 := ⟨by decide, by decide, by decide +kernel, gw_of 346 rfl rfl⟩
set_option maxRecDepth 100000 in
theorem vX1_98 : SV RX1 98 mX2_addNode 2 := ⟨sbX2_addNode, gw_of 751 rfl rfl, inX2_addNode, seX2_addNode⟩
set_option maxRecDepth 100000 in
theorem fX1_102 : FLK RX1 102 2 2 := ⟨by decide, by decide, by decide +kernel, gw_of 309 rfl rfl⟩
set_option maxRecDepth 100000 in
theorem fX1_105 : FLK RX1 105 2 16 := ⟨by decide, by decide, by decide +kernel, gw_of 359 rfl rfl⟩
set_option maxRecDepth 100000 in
theorem vX1_109 : SV RX1 109 mX1_readValue 1 := ⟨sbX1_readValue, gw_of 760 rfl rfl, inX1_readValue, seX1_readValue⟩
set_option maxRecDepth 100000 in
theorem vX1_112 : SV RX1 112 mX1_readOperand 2 := ⟨sbX1_readOperand, gw_of 764 rfl rfl, inX1_readOperand, seX1_readOperand⟩
set_option maxRecDepth 100000 in
theorem vX1_116 : SV RX1 116 mX1_readWay 2 := ⟨sbX1_readWay, gw_of 778 rfl rfl, inX1_readWay, seX1_readWay⟩
set_option maxRecDepth 100000 in
theorem fX1_119 : FLK RX1 119 1 4 := ⟨by decide, by decide, by decide +kernel, gw_of 400 rfl rfl⟩
set_option maxRecDepth 100000 in
theorem vX1_122 : SV RX1 122 mX2_makeSum 4 := ⟨sbX2_makeSum, gw_of 769 rfl rfl, inX2_makeSum, seX2_makeSum⟩
set_option maxRecDepth 100000 in
theorem vX1_126 : SS RX1 126 mX6_isSumSign 1 := ⟨sbX6_isSumSign, gw_of 777 rfl rfl, stX6_isSumSign⟩
set_option maxRecDepth 100000 in
theorem kX1_129 : Cond.constant RX1 129 (1000000000 : Int32) ∈ GW := gw_of 768 rfl rfl
set_option maxRecDepth 100000 in
theorem fX1_130 : FLK RX1 130 2 3 := ⟨by decide, by decide, by decide +kernel, gw_of 315 rfl rfl⟩
set_option maxRecDepth 100000 in
theorem fX1_133 : FLK RX1 133 2 5 := ⟨by decide, by decide, by decide +kernel, gw_of 322 rfl rfl⟩
set_option maxRecDepth 100000 in
theorem fX1_136 : FLK RX1 136 6 3 := ⟨by decide, by decide, by decide +kernel, gw_of 204 rfl rfl⟩
set_option maxRecDepth 100000 in
theorem fX1_139 : FLK RX1 139 6 0 := ⟨by decide, by decide, by decide +kernel, gw_of 198 rfl rfl⟩
set_option maxRecDepth 100000 in
theorem fX1_142 : FLK RX1 142 1 7 := ⟨by decide, by decide, by decide +kernel, gw_of 406 rfl rfl⟩
set_option maxRecDepth 100000 in
theorem vX1_144 : SV RX1 144 mX2_endOf 1 := ⟨sbX2_endOf, gw_of 786 rfl rfl, inX2_endOf, seX2_endOf⟩
set_option maxRecDepth 100000 in
theorem vX1_148 : SV RX1 148 mX1_refuseAt 2 := ⟨sbX1_refuseAt, gw_of 791 rfl rfl, inX1_refuseAt, seX1_refuseAt⟩
set_option maxRecDepth 100000 in
theorem vX2_3 : Cond.methodLink RX2 3 objectInit ∈ GW := gw_of 222 rfl rfl
set_option maxRecDepth 100000 in
theorem fX2_9 : FLK RX2 9 2 0 := ⟨by decide, by decide, by decide +kernel, gw_of 299 rfl rfl⟩
set_option maxRecDepth 100000 in
theorem fX2_15 : FLK RX2 15 2 1 := ⟨by decide, by decide, by decide +kernel, gw_of 304 rfl rfl⟩
set_option maxRecDepth 100000 in
theorem fX2_18 : FLK RX2 18 2 2 := ⟨by decide, by decide, by decide +kernel, gw_of 307 rfl rfl⟩
set_option maxRecDepth 100000 in
theorem nX2_21 : Cond.classLink RX2 21 "[[I" ∈ GW := gw_of 223 rfl rfl
set_option maxRecDepth 100000 in
theorem fX2_23 : FLK RX2 23 2 3 := ⟨by decide, by decide, by decide +kernel, gw_of 312 rfl rfl⟩
set_option maxRecDepth 100000 in
theorem fX2_26 : FLK RX2 26 2 4 := ⟨by decide, by decide, by decide +kernel, gw_of 316 rfl rfl⟩
set_option maxRecDepth 100000 in
theorem fX2_29 : FLK RX2 29 2 5 := ⟨by decide, by decide, by decide +kernel, gw_of 321 rfl rfl⟩
set_option maxRecDepth 100000 in
theorem fX2_32 : FLK RX2 32 2 6 := ⟨by decide, by decide, by decide +kernel, gw_of 324 rfl rfl⟩
set_option maxRecDepth 100000 in
theorem fX2_35 : FLK RX2 35 2 7 := ⟨by decide, by decide, by decide +kernel, gw_of 329 rfl rfl⟩
set_option maxRecDepth 100000 in
theorem fX2_38 : FLK RX2 38 2 8 := ⟨by decide, by decide, by decide +kernel, gw_of 331 rfl rfl⟩
set_option maxRecDepth 100000 in
theorem fX2_41 : FLK RX2 41 2 9 := ⟨by decide, by decide, by decide +kernel, gw_of 333 rfl rfl⟩
set_option maxRecDepth 100000 in
theorem nX2_44 : Cond.classLink RX2 44 RX4 ∈ GW := gw_of 224 rfl rfl
set_option maxRecDepth 100000 in
theorem vX2_46 : SIN RX2 "LateAndEarly" 46 mX4_init 0 := ⟨sbX4_init, List.mem_of_getElem? (i := 226) rfl, inX4_init, rfl, rfl⟩
set_option maxRecDepth 100000 in
theorem fX2_47 : FLK RX2 47 2 10 := ⟨by decide, by decide, by decide +kernel, gw_of 335 rfl rfl⟩
set_option maxRecDepth 100000 in
theorem nX2_51 : Cond.classLink RX2 51 RX0 ∈ GW := gw_of 259 rfl rfl
set_option maxRecDepth 100000 in
theorem vX2_53 : SIN RX2 "LateAndEarly" 53 mX0_init 0 := ⟨sbX0_init, List.mem_of_getElem? (i := 261) rfl, inX0_init, rfl, rfl⟩
set_option maxRecDepth 100000 in
theorem fX2_54 : FLK RX2 54 2 11 := ⟨by decide, by decide, by decide +kernel, gw_of 340 rfl rfl⟩
set_option maxRecDepth 100000 in
theorem vX2_58 : SV RX2 58 mX4_clear 0 := ⟨sbX4_clear, gw_of 719 rfl rfl, inX4_clear, seX4_clear⟩
set_option maxRecDepth 100000 in
theorem fX2_61 : FLK RX2 61 2 12 := ⟨by decide, by decide, by decide +kernel, gw_of 344 rfl rfl⟩
set_option maxRecDepth 100000 in
theorem fX2_65 : FLK RX2 65 2 13 := ⟨by decide, by decide, by decide +kernel, gw_of 348 rfl rfl⟩
set_option maxRecDepth 100000 in
theorem fX2_68 : FLK RX2 68 2 14 := ⟨by decide, by decide, by decide +kernel, gw_of 353 rfl rfl⟩
set_option maxRecDepth 100000 in
theorem fX2_71 : FLK RX2 71 2 15 := ⟨by decide, by decide, by decide +kernel, gw_of 356 rfl rfl⟩
set_option maxRecDepth 100000 in
theorem fX2_74 : FLK RX2 74 2 16 := ⟨by decide, by decide, by decide +kernel, gw_of 358 rfl rfl⟩
set_option maxRecDepth 100000 in
theorem vX2_78 : SV RX2 78 mX2_newNode 2 := ⟨sbX2_newNode, gw_of 755 rfl rfl, inX2_newNode, seX2_newNode⟩
set_option maxRecDepth 100000 in
theorem vX2_82 : SS RX2 82 mJ9_min_7cf53 2 := ⟨sbJ9_min_7cf53, gw_of 759 rfl rfl, stJ9_min_7cf53⟩
set_option maxRecDepth 100000 in
theorem vX2_87 : SV RX2 87 mX4_numberFor 3 := ⟨sbX4_numberFor, gw_of 773 rfl rfl, inX4_numberFor, seX4_numberFor⟩
set_option maxRecDepth 100000 in
theorem vX2_91 : SV RX2 91 mX2_linkNode 1 := ⟨sbX2_linkNode, gw_of 816 rfl rfl, inX2_linkNode, seX2_linkNode⟩
set_option maxRecDepth 100000 in
theorem vX2_95 : SV RX2 95 mX2_countLedBy 0 := ⟨sbX2_countLedBy, gw_of 828 rfl rfl, inX2_countLedBy, seX2_countLedBy⟩
set_option maxRecDepth 100000 in
theorem vX2_98 : SV RX2 98 mX0_find 1 := ⟨sbX0_find, gw_of 835 rfl rfl, inX0_find, seX0_find⟩
set_option maxRecDepth 100000 in
theorem vX2_102 : SV RX2 102 mX2_countWaysTo 1 := ⟨sbX2_countWaysTo, gw_of 820 rfl rfl, inX2_countWaysTo, seX2_countWaysTo⟩
set_option maxRecDepth 100000 in
theorem vX2_106 : SV RX2 106 mX2_addOnTheWay 1 := ⟨sbX2_addOnTheWay, gw_of 824 rfl rfl, inX2_addOnTheWay, seX2_addOnTheWay⟩
set_option maxRecDepth 100000 in
theorem vX2_109 : SS RX2 109 mJ7_fill_53178 2 := ⟨sbJ7_fill_53178, gw_of 832 rfl rfl, stJ7_fill_53178⟩
set_option maxRecDepth 100000 in
theorem vX2_115 : SV RX2 115 mX2_endOf 1 := ⟨sbX2_endOf, gw_of 803 rfl rfl, inX2_endOf, seX2_endOf⟩
set_option maxRecDepth 100000 in
theorem vX2_118 : SS RX2 118 mJ9_max_7cf53 2 := ⟨sbJ9_max_7cf53, gw_of 790 rfl rfl, stJ9_max_7cf53⟩
set_option maxRecDepth 100000 in
theorem vX2_121 : SV RX2 121 mX2_blocksNamedBy 1 := ⟨sbX2_blocksNamedBy, gw_of 799 rfl rfl, inX2_blocksNamedBy, seX2_blocksNamedBy⟩
set_option maxRecDepth 100000 in
theorem vX2_125 : SV RX2 125 mX0_countWorked 3 := ⟨sbX0_countWorked, gw_of 1098 rfl rfl, inX0_countWorked, seX0_countWorked⟩
set_option maxRecDepth 100000 in
theorem vX2_128 : SV RX2 128 mX2_leadsTowards 2 := ⟨sbX2_leadsTowards, gw_of 1102 rfl rfl, inX2_leadsTowards, seX2_leadsTowards⟩
set_option maxRecDepth 100000 in
theorem vX3_3 : Cond.methodLink RX3 3 objectInit ∈ GW := gw_of 429 rfl rfl
set_option maxRecDepth 100000 in
theorem fX3_9 : FLK RX3 9 3 0 := ⟨by decide, by decide, by decide +kernel, gw_of 431 rfl rfl⟩
set_option maxRecDepth 100000 in
theorem fX3_15 : FLK RX3 15 3 1 := ⟨by decide, by decide, by decide +kernel, gw_of 433 rfl rfl⟩
set_option maxRecDepth 100000 in
theorem nX3_18 : Cond.classLink RX3 18 "[[I" ∈ GW := gw_of 430 rfl rfl
set_option maxRecDepth 100000 in
theorem fX3_20 : FLK RX3 20 3 2 := ⟨by decide, by decide, by decide +kernel, gw_of 435 rfl rfl⟩
set_option maxRecDepth 100000 in
theorem fX3_23 : FLK RX3 23 3 3 := ⟨by decide, by decide, by decide +kernel, gw_of 437 rfl rfl⟩
set_option maxRecDepth 100000 in
theorem fX3_26 : FLK RX3 26 3 4 := ⟨by decide, by decide, by decide +kernel, gw_of 439 rfl rfl⟩
set_option maxRecDepth 100000 in
theorem fX3_29 : FLK RX3 29 3 5 := ⟨by decide, by decide, by decide +kernel, gw_of 441 rfl rfl⟩
set_option maxRecDepth 100000 in
theorem vX3_32 : SV RX3 32 mX3_reset 0 := ⟨sbX3_reset, gw_of 998 rfl rfl, inX3_reset, seX3_reset⟩
