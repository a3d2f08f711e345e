abbrev mX8_init : MI := (yX8_init, cX8_init, 1, none)
set_option maxRecDepth 100000 in
theorem sbX8_init : SB mX8_init 0 := ⟨gw_of 141 rfl rfl, gw_of 163 rfl rfl, ⟨by decide +kernel, by decide +kernel, by decide +kernel⟩, by decide⟩
set_option maxRecDepth 100000 in
theorem inX8_init : Cond.instanceMethod mX8_init.1 ∈ GW := gw_of 162 rfl rfl
abbrev mX5_init : MI := (yX5_init, cX5_init, 1, none)
set_option maxRecDepth 100000 in
theorem sbX5_init : SB mX5_init 0 := ⟨gw_of 142 rfl rfl, gw_of 171 rfl rfl, ⟨by decide +kernel, by decide +kernel, by decide +kernel⟩, by decide⟩
set_option maxRecDepth 100000 in
theorem inX5_init : Cond.instanceMethod mX5_init.1 ∈ GW := gw_of 170 rfl rfl
abbrev mX1_init : MI := (yX1_init, cX1_init, 1, none)
set_option maxRecDepth 100000 in
theorem sbX1_init : SB mX1_init 0 := ⟨gw_of 143 rfl rfl, gw_of 189 rfl rfl, ⟨by decide +kernel, by decide +kernel, by decide +kernel⟩, by decide⟩
set_option maxRecDepth 100000 in
theorem inX1_init : Cond.instanceMethod mX1_init.1 ∈ GW := gw_of 188 rfl rfl
abbrev mX6_init : MI := (yX6_init, cX6_init, 1, none)
set_option maxRecDepth 100000 in
theorem sbX6_init : SB mX6_init 0 := ⟨gw_of 144 rfl rfl, gw_of 195 rfl rfl, ⟨by decide +kernel, by decide +kernel, by decide +kernel⟩, by decide⟩
set_option maxRecDepth 100000 in
theorem inX6_init : Cond.instanceMethod mX6_init.1 ∈ GW := gw_of 194 rfl rfl
abbrev mX2_init : MI := (yX2_init, cX2_init, 1, none)
set_option maxRecDepth 100000 in
theorem sbX2_init : SB mX2_init 0 := ⟨gw_of 145 rfl rfl, gw_of 221 rfl rfl, ⟨by decide +kernel, by decide +kernel, by decide +kernel⟩, by decide⟩
set_option maxRecDepth 100000 in
theorem inX2_init : Cond.instanceMethod mX2_init.1 ∈ GW := gw_of 220 rfl rfl
abbrev mX4_init : MI := (yX4_init, cX4_init, 1, none)
set_option maxRecDepth 100000 in
theorem sbX4_init : SB mX4_init 0 := ⟨gw_of 146 rfl rfl, gw_of 228 rfl rfl, ⟨by decide +kernel, by decide +kernel, by decide +kernel⟩, by decide⟩
set_option maxRecDepth 100000 in
theorem inX4_init : Cond.instanceMethod mX4_init.1 ∈ GW := gw_of 227 rfl rfl
abbrev mX0_init : MI := (yX0_init, cX0_init, 1, none)
set_option maxRecDepth 100000 in
theorem sbX0_init : SB mX0_init 0 := ⟨gw_of 147 rfl rfl, gw_of 263 rfl rfl, ⟨by decide +kernel, by decide +kernel, by decide +kernel⟩, by decide⟩
set_option maxRecDepth 100000 in
theorem inX0_init : Cond.instanceMethod mX0_init.1 ∈ GW := gw_of 262 rfl rfl
abbrev mX3_init : MI := (yX3_init, cX3_init, 1, none)
set_option maxRecDepth 100000 in
theorem sbX3_init : SB mX3_init 0 := ⟨gw_of 148 rfl rfl, gw_of 428 rfl rfl, ⟨by decide +kernel, by decide +kernel, by decide +kernel⟩, by decide⟩
set_option maxRecDepth 100000 in
theorem inX3_init : Cond.instanceMethod mX3_init.1 ∈ GW := gw_of 427 rfl rfl
abbrev mX7_init : MI := (yX7_init, cX7_init, 1, none)
set_option maxRecDepth 100000 in
theorem sbX7_init : SB mX7_init 0 := ⟨gw_of 149 rfl rfl, gw_of 482 rfl rfl, ⟨by decide +kernel, by decide +kernel, by decide +kernel⟩, by decide⟩
set_option maxRecDepth 100000 in
theorem inX7_init : Cond.instanceMethod mX7_init.1 ∈ GW := gw_of 481 rfl rfl
abbrev mX8_feed : MI := (yX8_feed, cX8_feed, 5, (some .int))
set_option maxRecDepth 100000 in
theorem sbX8_feed : SB mX8_feed 2 := ⟨gw_of 141 rfl rfl, gw_of 522 rfl rfl, ⟨by decide +kernel, by decide +kernel, by decide +kernel⟩, by decide⟩
set_option maxRecDepth 100000 in
theorem inX8_feed : Cond.instanceMethod mX8_feed.1 ∈ GW := gw_of 520 rfl rfl
set_option maxRecDepth 100000 in
theorem seX8_feed : Cond.selects mX8_feed.1.cls mX8_feed.1 mX8_feed.1 ∈ GW := gw_of 521 rfl rfl
abbrev mX5_add : MI := (yX5_add, cX5_add, 2, none)
set_option maxRecDepth 100000 in
theorem sbX5_add : SB mX5_add 1 := ⟨gw_of 142 rfl rfl, gw_of 526 rfl rfl, ⟨by decide +kernel, by decide +kernel, by decide +kernel⟩, by decide⟩
set_option maxRecDepth 100000 in
theorem inX5_add : Cond.instanceMethod mX5_add.1 ∈ GW := gw_of 524 rfl rfl
set_option maxRecDepth 100000 in
theorem seX5_add : Cond.selects mX5_add.1.cls mX5_add.1 mX5_add.1 ∈ GW := gw_of 525 rfl rfl
abbrev mX8_cut : MI := (yX8_cut, cX8_cut, 2, (some .int))
set_option maxRecDepth 100000 in
theorem sbX8_cut : SB mX8_cut 1 := ⟨gw_of 141 rfl rfl, gw_of 530 rfl rfl, ⟨by decide +kernel, by decide +kernel, by decide +kernel⟩, by decide⟩
set_option maxRecDepth 100000 in
theorem inX8_cut : Cond.instanceMethod mX8_cut.1 ∈ GW := gw_of 528 rfl rfl
set_option maxRecDepth 100000 in
theorem seX8_cut : Cond.selects mX8_cut.1.cls mX8_cut.1 mX8_cut.1 ∈ GW := gw_of 529 rfl rfl
abbrev mX8_tape : MI := (yX8_tape, cX8_tape, 3, (some .int))
set_option maxRecDepth 100000 in
theorem sbX8_tape : SB mX8_tape 1 := ⟨gw_of 141 rfl rfl, gw_of 534 rfl rfl, ⟨by decide +kernel, by decide +kernel, by decide +kernel⟩, by decide⟩
set_option maxRecDepth 100000 in
theorem inX8_tape : Cond.instanceMethod mX8_tape.1 ∈ GW := gw_of 532 rfl rfl
set_option maxRecDepth 100000 in
theorem seX8_tape : Cond.selects mX8_tape.1.cls mX8_tape.1 mX8_tape.1 ∈ GW := gw_of 533 rfl rfl
abbrev mX5_byteAt : MI := (yX5_byteAt, cX5_byteAt, 2, (some .int))
set_option maxRecDepth 100000 in
theorem sbX5_byteAt : SB mX5_byteAt 1 := ⟨gw_of 142 rfl rfl, gw_of 538 rfl rfl, ⟨by decide +kernel, by decide +kernel, by decide +kernel⟩, by decide⟩
set_option maxRecDepth 100000 in
theorem inX5_byteAt : Cond.instanceMethod mX5_byteAt.1 ∈ GW := gw_of 536 rfl rfl
set_option maxRecDepth 100000 in
theorem seX5_byteAt : Cond.selects mX5_byteAt.1.cls mX5_byteAt.1 mX5_byteAt.1 ∈ GW := gw_of 537 rfl rfl
abbrev mX8_parse : MI := (yX8_parse, cX8_parse, 4, (some .int))
set_option maxRecDepth 100000 in
theorem sbX8_parse : SB mX8_parse 1 := ⟨gw_of 141 rfl rfl, gw_of 542 rfl rfl, ⟨by decide +kernel, by decide +kernel, by decide +kernel⟩, by decide⟩
set_option maxRecDepth 100000 in
theorem inX8_parse : Cond.instanceMethod mX8_parse.1 ∈ GW := gw_of 540 rfl rfl
set_option maxRecDepth 100000 in
theorem seX8_parse : Cond.selects mX8_parse.1.cls mX8_parse.1 mX8_parse.1 ∈ GW := gw_of 541 rfl rfl
abbrev mX1_readText : MI := (yX1_readText, cX1_readText, 3, (some .boolean))
set_option maxRecDepth 100000 in
theorem sbX1_readText : SB mX1_readText 1 := ⟨gw_of 143 rfl rfl, gw_of 546 rfl rfl, ⟨by decide +kernel, by decide +kernel, by decide +kernel⟩, by decide⟩
set_option maxRecDepth 100000 in
theorem inX1_readText : Cond.instanceMethod mX1_readText.1 ∈ GW := gw_of 544 rfl rfl
set_option maxRecDepth 100000 in
theorem seX1_readText : Cond.selects mX1_readText.1.cls mX1_readText.1 mX1_readText.1 ∈ GW := gw_of 545 rfl rfl
abbrev mX6_scan : MI := (yX6_scan, cX6_scan, 4, none)
set_option maxRecDepth 100000 in
theorem sbX6_scan : SB mX6_scan 1 := ⟨gw_of 144 rfl rfl, gw_of 550 rfl rfl, ⟨by decide +kernel, by decide +kernel, by decide +kernel⟩, by decide⟩
set_option maxRecDepth 100000 in
theorem inX6_scan : Cond.instanceMethod mX6_scan.1 ∈ GW := gw_of 548 rfl rfl
set_option maxRecDepth 100000 in
theorem seX6_scan : Cond.selects mX6_scan.1.cls mX6_scan.1 mX6_scan.1 ∈ GW := gw_of 549 rfl rfl
abbrev mX6_isBlank : MI := (yX6_isBlank, cX6_isBlank, 1, (some .boolean))
set_option maxRecDepth 100000 in
theorem sbX6_isBlank : SB mX6_isBlank 1 := ⟨gw_of 144 rfl rfl, gw_of 554 rfl rfl, ⟨by decide +kernel, by decide +kernel, by decide +kernel⟩, by decide⟩
set_option maxRecDepth 100000 in
theorem stX6_isBlank : Cond.static mX6_isBlank.1 ∈ GW := gw_of 553 rfl rfl
abbrev mX6_scanToken : MI := (yX6_scanToken, cX6_scanToken, 4, (some .int))
set_option maxRecDepth 100000 in
theorem sbX6_scanToken : SB mX6_scanToken 2 := ⟨gw_of 144 rfl rfl, gw_of 558 rfl rfl, ⟨by decide +kernel, by decide +kernel, by decide +kernel⟩, by decide⟩
set_option maxRecDepth 100000 in
theorem inX6_scanToken : Cond.instanceMethod mX6_scanToken.1 ∈ GW := gw_of 557 rfl rfl
set_option maxRecDepth 100000 in
theorem seX6_scanToken : Cond.selects mX6_scanToken.1.cls mX6_scanToken.1 mX6_scanToken.1 ∈ GW := gw_of 0 rfl rfl
abbrev mX6_isLetter : MI := (yX6_isLetter, cX6_isLetter, 1, (some .boolean))
set_option maxRecDepth 100000 in
theorem sbX6_isLetter : SB mX6_isLetter 1 := ⟨gw_of 144 rfl rfl, gw_of 561 rfl rfl, ⟨by decide +kernel, by decide +kernel, by decide +kernel⟩, by decide⟩
set_option maxRecDepth 100000 in
theorem stX6_isLetter : Cond.static mX6_isLetter.1 ∈ GW := gw_of 560 rfl rfl
abbrev mX6_isDigit : MI := (yX6_isDigit, cX6_isDigit, 1, (some .boolean))
set_option maxRecDepth 100000 in
theorem sbX6_isDigit : SB mX6_isDigit 1 := ⟨gw_of 144 rfl rfl, gw_of 564 rfl rfl, ⟨by decide +kernel, by decide +kernel, by decide +kernel⟩, by decide⟩
set_option maxRecDepth 100000 in
theorem stX6_isDigit : Cond.static mX6_isDigit.1 ∈ GW := gw_of 563 rfl rfl
abbrev mX6_scanWordOrNumber : MI := (yX6_scanWordOrNumber, cX6_scanWordOrNumber, 7, (some .int))
set_option maxRecDepth 100000 in
theorem sbX6_scanWordOrNumber : SB mX6_scanWordOrNumber 2 := ⟨gw_of 144 rfl rfl, gw_of 568 rfl rfl, ⟨by decide +kernel, by decide +kernel, by decide +kernel⟩, by decide⟩
set_option maxRecDepth 100000 in
theorem inX6_scanWordOrNumber : Cond.instanceMethod mX6_scanWordOrNumber.1 ∈ GW := gw_of 567 rfl rfl
set_option maxRecDepth 100000 in
theorem seX6_scanWordOrNumber : Cond.selects mX6_scanWordOrNumber.1.cls mX6_scanWordOrNumber.1 mX6_scanWordOrNumber.1 ∈ GW := gw_of 1 rfl rfl
abbrev mX6_endOfLetters : MI := (yX6_endOfLetters, cX6_endOfLetters, 3, (some .int))
set_option maxRecDepth 100000 in
theorem sbX6_endOfLetters : SB mX6_endOfLetters 2 := ⟨gw_of 144 rfl rfl, gw_of 571 rfl rfl, ⟨by decide +kernel, by decide +kernel, by decide +kernel⟩, by decide⟩
set_option maxRecDepth 100000 in
theorem stX6_endOfLetters : Cond.static mX6_endOfLetters.1 ∈ GW := gw_of 570 rfl rfl
abbrev mX6_endOfDigits : MI := (yX6_endOfDigits, cX6_endOfDigits, 3, (some .int))
set_option maxRecDepth 100000 in
theorem sbX6_endOfDigits : SB mX6_endOfDigits 2 := ⟨gw_of 144 rfl rfl, gw_of 574 rfl rfl, ⟨by decide +kernel, by decide +kernel, by decide +kernel⟩, by decide⟩
set_option maxRecDepth 100000 in
theorem stX6_endOfDigits : Cond.static mX6_endOfDigits.1 ∈ GW := gw_of 573 rfl rfl
abbrev mX6_endOfBoth : MI := (yX6_endOfBoth, cX6_endOfBoth, 3, (some .int))
set_option maxRecDepth 100000 in
theorem sbX6_endOfBoth : SB mX6_endOfBoth 2 := ⟨gw_of 144 rfl rfl, gw_of 577 rfl rfl, ⟨by decide +kernel, by decide +kernel, by decide +kernel⟩, by decide⟩
set_option maxRecDepth 100000 in
theorem stX6_endOfBoth : Cond.static mX6_endOfBoth.1 ∈ GW := gw_of 576 rfl rfl
abbrev mX6_add : MI := (yX6_add, cX6_add, 4, none)
set_option maxRecDepth 100000 in
theorem sbX6_add : SB mX6_add 3 := ⟨gw_of 144 rfl rfl, gw_of 581 rfl rfl, ⟨by decide +kernel, by decide +kernel, by decide +kernel⟩, by decide⟩
set_option maxRecDepth 100000 in
theorem inX6_add : Cond.instanceMethod mX6_add.1 ∈ GW := gw_of 580 rfl rfl
set_option maxRecDepth 100000 in
theorem seX6_add : Cond.selects mX6_add.1.cls mX6_add.1 mX6_add.1 ∈ GW := gw_of 2 rfl rfl
abbrev mX6_numberOf : MI := (yX6_numberOf, cX6_numberOf, 5, (some .int))
set_option maxRecDepth 100000 in
theorem sbX6_numberOf : SB mX6_numberOf 3 := ⟨gw_of 144 rfl rfl, gw_of 584 rfl rfl, ⟨by decide +kernel, by decide +kernel, by decide +kernel⟩, by decide⟩
set_option maxRecDepth 100000 in
theorem stX6_numberOf : Cond.static mX6_numberOf.1 ∈ GW := gw_of 583 rfl rfl
abbrev mX6_addLetters : MI := (yX6_addLetters, cX6_addLetters, 4, none)
set_option maxRecDepth 100000 in
theorem sbX6_addLetters : SB mX6_addLetters 3 := ⟨gw_of 144 rfl rfl, gw_of 588 rfl rfl, ⟨by decide +kernel, by decide +kernel, by decide +kernel⟩, by decide⟩
set_option maxRecDepth 100000 in
theorem inX6_addLetters : Cond.instanceMethod mX6_addLetters.1 ∈ GW := gw_of 587 rfl rfl
set_option maxRecDepth 100000 in
theorem seX6_addLetters : Cond.selects mX6_addLetters.1.cls mX6_addLetters.1 mX6_addLetters.1 ∈ GW := gw_of 3 rfl rfl
abbrev mX6_isText : MI := (yX6_isText, cX6_isText, 6, (some .boolean))
set_option maxRecDepth 100000 in
theorem sbX6_isText : SB mX6_isText 4 := ⟨gw_of 144 rfl rfl, gw_of 592 rfl rfl, ⟨by decide +kernel, by decide +kernel, by decide +kernel⟩, by decide⟩
set_option maxRecDepth 100000 in
theorem stX6_isText : Cond.static mX6_isText.1 ∈ GW := gw_of 591 rfl rfl
abbrev mJ0_length_8abf5 : MI := (yJ0_length_8abf5, cJ0_length_8abf5, 1, (some .int))
set_option maxRecDepth 100000 in
theorem sbJ0_length_8abf5 : SB mJ0_length_8abf5 0 := ⟨gw_of 151 rfl rfl, gw_of 596 rfl rfl, ⟨by decide +kernel, by decide +kernel, by decide +kernel⟩, by decide⟩
set_option maxRecDepth 100000 in
theorem inJ0_length_8abf5 : Cond.instanceMethod mJ0_length_8abf5.1 ∈ GW := gw_of 594 rfl rfl
set_option maxRecDepth 100000 in
theorem seJ0_length_8abf5 : Cond.selects mJ0_length_8abf5.1.cls mJ0_length_8abf5.1 mJ0_length_8abf5.1 ∈ GW := gw_of 595 rfl rfl
abbrev mJ0_coder_7d493 : MI := (yJ0_coder_7d493, cJ0_coder_7d493, 1, (some .byte))
set_option maxRecDepth 100000 in
theorem sbJ0_coder_7d493 : SB mJ0_coder_7d493 0 := ⟨gw_of 151 rfl rfl, gw_of 600 rfl rfl, ⟨by decide +kernel, by decide +kernel, by decide +kernel⟩, by decide⟩
set_option maxRecDepth 100000 in
theorem inJ0_coder_7d493 : Cond.instanceMethod mJ0_coder_7d493.1 ∈ GW := gw_of 598 rfl rfl
set_option maxRecDepth 100000 in
theorem seJ0_coder_7d493 : Cond.selects mJ0_coder_7d493.1.cls mJ0_coder_7d493.1 mJ0_coder_7d493.1 ∈ GW := gw_of 599 rfl rfl
abbrev mJ0_charAt_5068e : MI := (yJ0_charAt_5068e, cJ0_charAt_5068e, 2, (some .char))
set_option maxRecDepth 100000 in
theorem sbJ0_charAt_5068e : SB mJ0_charAt_5068e 1 := ⟨gw_of 151 rfl rfl, gw_of 606 rfl rfl, ⟨by decide +kernel, by decide +kernel, by decide +kernel⟩, by decide⟩
set_option maxRecDepth 100000 in
theorem inJ0_charAt_5068e : Cond.instanceMethod mJ0_charAt_5068e.1 ∈ GW := gw_of 604 rfl rfl
set_option maxRecDepth 100000 in
theorem seJ0_charAt_5068e : Cond.selects mJ0_charAt_5068e.1.cls mJ0_charAt_5068e.1 mJ0_charAt_5068e.1 ∈ GW := gw_of 605 rfl rfl
abbrev mJ0_isLatin1_aae02 : MI := (yJ0_isLatin1_aae02, cJ0_isLatin1_aae02, 1, (some .boolean))
set_option maxRecDepth 100000 in
theorem sbJ0_isLatin1_aae02 : SB mJ0_isLatin1_aae02 0 := ⟨gw_of 151 rfl rfl, gw_of 610 rfl rfl, ⟨by decide +kernel, by decide +kernel, by decide +kernel⟩, by decide⟩
set_option maxRecDepth 100000 in
theorem inJ0_isLatin1_aae02 : Cond.instanceMethod mJ0_isLatin1_aae02.1 ∈ GW := gw_of 608 rfl rfl
set_option maxRecDepth 100000 in
theorem seJ0_isLatin1_aae02 : Cond.selects mJ0_isLatin1_aae02.1.cls mJ0_isLatin1_aae02.1 mJ0_isLatin1_aae02.1 ∈ GW := gw_of 609 rfl rfl
abbrev mJ1_charAt_3b067 : MI := (yJ1_charAt_3b067, cJ1_charAt_3b067, 2, (some .char))
set_option maxRecDepth 100000 in
theorem sbJ1_charAt_3b067 : SB mJ1_charAt_3b067 2 := ⟨gw_of 152 rfl rfl, gw_of 613 rfl rfl, ⟨by decide +kernel, by decide +kernel, by decide +kernel⟩, by decide⟩
set_option maxRecDepth 100000 in
theorem stJ1_charAt_3b067 : Cond.static mJ1_charAt_3b067.1 ∈ GW := gw_of 612 rfl rfl
abbrev mJ0_checkIndex_df160 : MI := (yJ0_checkIndex_df160, cJ0_checkIndex_df160, 2, none)
set_option maxRecDepth 100000 in
theorem sbJ0_checkIndex_df160 : SB mJ0_checkIndex_df160 2 := ⟨gw_of 151 rfl rfl, gw_of 616 rfl rfl, ⟨by decide +kernel, by decide +kernel, by decide +kernel⟩, by decide⟩
set_option maxRecDepth 100000 in
theorem stJ0_checkIndex_df160 : Cond.static mJ0_checkIndex_df160.1 ∈ GW := gw_of 615 rfl rfl
abbrev mJ3_checkIndex_8e157 : MI := (yJ3_checkIndex_8e157, cJ3_checkIndex_8e157, 3, (some .int))
set_option maxRecDepth 100000 in
theorem sbJ3_checkIndex_8e157 : SB mJ3_checkIndex_8e157 3 := ⟨gw_of 153 rfl rfl, gw_of 621 rfl rfl, ⟨by decide +kernel, by decide +kernel, by decide +kernel⟩, by decide⟩
set_option maxRecDepth 100000 in
theorem stJ3_checkIndex_8e157 : Cond.static mJ3_checkIndex_8e157.1 ∈ GW := gw_of 620 rfl rfl
abbrev mJ2_charAt_3b067 : MI := (yJ2_charAt_3b067, cJ2_charAt_3b067, 2, (some .char))
set_option maxRecDepth 100000 in
theorem sbJ2_charAt_3b067 : SB mJ2_charAt_3b067 2 := ⟨gw_of 154 rfl rfl, gw_of 624 rfl rfl, ⟨by decide +kernel, by decide +kernel, by decide +kernel⟩, by decide⟩
set_option maxRecDepth 100000 in
theorem stJ2_charAt_3b067 : Cond.static mJ2_charAt_3b067.1 ∈ GW := gw_of 623 rfl rfl
abbrev mJ2_checkIndex_2214a : MI := (yJ2_checkIndex_2214a, cJ2_checkIndex_2214a, 2, none)
set_option maxRecDepth 100000 in
theorem sbJ2_checkIndex_2214a : SB mJ2_checkIndex_2214a 2 := ⟨gw_of 154 rfl rfl, gw_of 627 rfl rfl, ⟨by decide +kernel, by decide +kernel, by decide +kernel⟩, by decide⟩
set_option maxRecDepth 100000 in
theorem stJ2_checkIndex_2214a : Cond.static mJ2_checkIndex_2214a.1 ∈ GW := gw_of 626 rfl rfl
abbrev mJ2_length_9d52b : MI := (yJ2_length_9d52b, cJ2_length_9d52b, 1, (some .int))
set_option maxRecDepth 100000 in
theorem sbJ2_length_9d52b : SB mJ2_length_9d52b 1 := ⟨gw_of 154 rfl rfl, gw_of 630 rfl rfl, ⟨by decide +kernel, by decide +kernel, by decide +kernel⟩, by decide⟩
set_option maxRecDepth 100000 in
theorem stJ2_length_9d52b : Cond.static mJ2_length_9d52b.1 ∈ GW := gw_of 629 rfl rfl
abbrev mJ2_getChar_3b067 : MI := (yJ2_getChar_3b067, cJ2_getChar_3b067, 2, (some .char))
set_option maxRecDepth 100000 in
theorem sbJ2_getChar_3b067 : SB mJ2_getChar_3b067 2 := ⟨gw_of 154 rfl rfl, gw_of 634 rfl rfl, ⟨by decide +kernel, by decide +kernel, by decide +kernel⟩, by decide⟩
set_option maxRecDepth 100000 in
theorem stJ2_getChar_3b067 : Cond.static mJ2_getChar_3b067.1 ∈ GW := gw_of 633 rfl rfl
abbrev mX6_addNumbered : MI := (yX6_addNumbered, cX6_addNumbered, 8, none)
set_option maxRecDepth 100000 in
theorem sbX6_addNumbered : SB mX6_addNumbered 4 := ⟨gw_of 144 rfl rfl, gw_of 647 rfl rfl, ⟨by decide +kernel, by decide +kernel, by decide +kernel⟩, by decide⟩
set_option maxRecDepth 100000 in
theorem inX6_addNumbered : Cond.instanceMethod mX6_addNumbered.1 ∈ GW := gw_of 646 rfl rfl
set_option maxRecDepth 100000 in
theorem seX6_addNumbered : Cond.selects mX6_addNumbered.1.cls mX6_addNumbered.1 mX6_addNumbered.1 ∈ GW := gw_of 4 rfl rfl
abbrev mX6_isSign : MI := (yX6_isSign, cX6_isSign, 1, (some .boolean))
set_option maxRecDepth 100000 in
theorem sbX6_isSign : SB mX6_isSign 1 := ⟨gw_of 144 rfl rfl, gw_of 650 rfl rfl, ⟨by decide +kernel, by decide +kernel, by decide +kernel⟩, by decide⟩
set_option maxRecDepth 100000 in
theorem stX6_isSign : Cond.static mX6_isSign.1 ∈ GW := gw_of 649 rfl rfl
abbrev mJ0_indexOf_0f7a4 : MI := (yJ0_indexOf_0f7a4, cJ0_indexOf_0f7a4, 2, (some .int))
set_option maxRecDepth 100000 in
theorem sbJ0_indexOf_0f7a4 : SB mJ0_indexOf_0f7a4 1 := ⟨gw_of 151 rfl rfl, gw_of 655 rfl rfl, ⟨by decide +kernel, by decide +kernel, by decide +kernel⟩, by decide⟩
set_option maxRecDepth 100000 in
theorem inJ0_indexOf_0f7a4 : Cond.instanceMethod mJ0_indexOf_0f7a4.1 ∈ GW := gw_of 653 rfl rfl
set_option maxRecDepth 100000 in
theorem seJ0_indexOf_0f7a4 : Cond.selects mJ0_indexOf_0f7a4.1.cls mJ0_indexOf_0f7a4.1 mJ0_indexOf_0f7a4.1 ∈ GW := gw_of 654 rfl rfl
abbrev mJ0_indexOf_7cf53 : MI := (yJ0_indexOf_7cf53, cJ0_indexOf_7cf53, 3, (some .int))
set_option maxRecDepth 100000 in
theorem sbJ0_indexOf_7cf53 : SB mJ0_indexOf_7cf53 2 := ⟨gw_of 151 rfl rfl, gw_of 659 rfl rfl, ⟨by decide +kernel, by decide +kernel, by decide +kernel⟩, by decide⟩
set_option maxRecDepth 100000 in
theorem inJ0_indexOf_7cf53 : Cond.instanceMethod mJ0_indexOf_7cf53.1 ∈ GW := gw_of 657 rfl rfl
set_option maxRecDepth 100000 in
theorem seJ0_indexOf_7cf53 : Cond.selects mJ0_indexOf_7cf53.1.cls mJ0_indexOf_7cf53.1 mJ0_indexOf_7cf53.1 ∈ GW := gw_of 658 rfl rfl
abbrev mJ1_indexOf_4cfef : MI := (yJ1_indexOf_4cfef, cJ1_indexOf_4cfef, 4, (some .int))
set_option maxRecDepth 100000 in
theorem sbJ1_indexOf_4cfef : SB mJ1_indexOf_4cfef 4 := ⟨gw_of 152 rfl rfl, gw_of 663 rfl rfl, ⟨by decide +kernel, by decide +kernel, by decide +kernel⟩, by decide⟩
set_option maxRecDepth 100000 in
theorem stJ1_indexOf_4cfef : Cond.static mJ1_indexOf_4cfef.1 ∈ GW := gw_of 662 rfl rfl
abbrev mJ1_canEncode_9a6ad : MI := (yJ1_canEncode_9a6ad, cJ1_canEncode_9a6ad, 1, (some .boolean))
set_option maxRecDepth 100000 in
theorem sbJ1_canEncode_9a6ad : SB mJ1_canEncode_9a6ad 1 := ⟨gw_of 152 rfl rfl, gw_of 666 rfl rfl, ⟨by decide +kernel, by decide +kernel, by decide +kernel⟩, by decide⟩
set_option maxRecDepth 100000 in
theorem stJ1_canEncode_9a6ad : Cond.static mJ1_canEncode_9a6ad.1 ∈ GW := gw_of 665 rfl rfl
abbrev mJ9_max_7cf53 : MI := (yJ9_max_7cf53, cJ9_max_7cf53, 2, (some .int))
set_option maxRecDepth 100000 in
theorem sbJ9_max_7cf53 : SB mJ9_max_7cf53 2 := ⟨gw_of 155 rfl rfl, gw_of 669 rfl rfl, ⟨by decide +kernel, by decide +kernel, by decide +kernel⟩, by decide⟩
set_option maxRecDepth 100000 in
theorem stJ9_max_7cf53 : Cond.static mJ9_max_7cf53.1 ∈ GW := gw_of 668 rfl rfl
abbrev mJ9_min_7cf53 : MI := (yJ9_min_7cf53, cJ9_min_7cf53, 2, (some .int))
set_option maxRecDepth 100000 in
theorem sbJ9_min_7cf53 : SB mJ9_min_7cf53 2 := ⟨gw_of 155 rfl rfl, gw_of 672 rfl rfl, ⟨by decide +kernel, by decide +kernel, by decide +kernel⟩, by decide⟩
set_option maxRecDepth 100000 in
theorem stJ9_min_7cf53 : Cond.static mJ9_min_7cf53.1 ∈ GW := gw_of 671 rfl rfl
abbrev mJ1_indexOfChar_4cfef : MI := (yJ1_indexOfChar_4cfef, cJ1_indexOfChar_4cfef, 6, (some .int))
set_option maxRecDepth 100000 in
theorem sbJ1_indexOfChar_4cfef : SB mJ1_indexOfChar_4cfef 4 := ⟨gw_of 152 rfl rfl, gw_of 675 rfl rfl, ⟨by decide +kernel, by decide +kernel, by decide +kernel⟩, by decide⟩
set_option maxRecDepth 100000 in
theorem stJ1_indexOfChar_4cfef : Cond.static mJ1_indexOfChar_4cfef.1 ∈ GW := gw_of 674 rfl rfl
abbrev mJ2_indexOf_4cfef : MI := (yJ2_indexOf_4cfef, cJ2_indexOf_4cfef, 4, (some .int))
set_option maxRecDepth 100000 in
theorem sbJ2_indexOf_4cfef : SB mJ2_indexOf_4cfef 4 := ⟨gw_of 154 rfl rfl, gw_of 678 rfl rfl, ⟨by decide +kernel, by decide +kernel, by decide +kernel⟩, by decide⟩
set_option maxRecDepth 100000 in
theorem stJ2_indexOf_4cfef : Cond.static mJ2_indexOf_4cfef.1 ∈ GW := gw_of 677 rfl rfl
abbrev mJ2_indexOfChar_4cfef : MI := (yJ2_indexOfChar_4cfef, cJ2_indexOfChar_4cfef, 4, (some .int))
set_option maxRecDepth 100000 in
theorem sbJ2_indexOfChar_4cfef : SB mJ2_indexOfChar_4cfef 4 := ⟨gw_of 154 rfl rfl, gw_of 684 rfl rfl, ⟨by decide +kernel, by decide +kernel, by decide +kernel⟩, by decide⟩
set_option maxRecDepth 100000 in
theorem stJ2_indexOfChar_4cfef : Cond.static mJ2_indexOfChar_4cfef.1 ∈ GW := gw_of 683 rfl rfl
abbrev mJ2_checkBoundsBeginEnd_d044e : MI := (yJ2_checkBoundsBeginEnd_d044e, cJ2_checkBoundsBeginEnd_d044e, 3, none)
set_option maxRecDepth 100000 in
theorem sbJ2_checkBoundsBeginEnd_d044e : SB mJ2_checkBoundsBeginEnd_d044e 3 := ⟨gw_of 154 rfl rfl, gw_of 687 rfl rfl, ⟨by decide +kernel, by decide +kernel, by decide +kernel⟩, by decide⟩
set_option maxRecDepth 100000 in
theorem stJ2_checkBoundsBeginEnd_d044e : Cond.static mJ2_checkBoundsBeginEnd_d044e.1 ∈ GW := gw_of 686 rfl rfl
abbrev mJ0_checkBoundsBeginEnd_23922 : MI := (yJ0_checkBoundsBeginEnd_23922, cJ0_checkBoundsBeginEnd_23922, 3, none)
set_option maxRecDepth 100000 in
theorem sbJ0_checkBoundsBeginEnd_23922 : SB mJ0_checkBoundsBeginEnd_23922 3 := ⟨gw_of 151 rfl rfl, gw_of 690 rfl rfl, ⟨by decide +kernel, by decide +kernel, by decide +kernel⟩, by decide⟩
set_option maxRecDepth 100000 in
theorem stJ0_checkBoundsBeginEnd_23922 : Cond.static mJ0_checkBoundsBeginEnd_23922.1 ∈ GW := gw_of 689 rfl rfl
abbrev mJ3_checkFromToIndex_8c36e : MI := (yJ3_checkFromToIndex_8c36e, cJ3_checkFromToIndex_8c36e, 4, (some .int))
set_option maxRecDepth 100000 in
theorem sbJ3_checkFromToIndex_8c36e : SB mJ3_checkFromToIndex_8c36e 4 := ⟨gw_of 153 rfl rfl, gw_of 693 rfl rfl, ⟨by decide +kernel, by decide +kernel, by decide +kernel⟩, by decide⟩
set_option maxRecDepth 100000 in
theorem stJ3_checkFromToIndex_8c36e : Cond.static mJ3_checkFromToIndex_8c36e.1 ∈ GW := gw_of 692 rfl rfl
abbrev mJ2_indexOfCharUnsafe_4cfef : MI := (yJ2_indexOfCharUnsafe_4cfef, cJ2_indexOfCharUnsafe_4cfef, 5, (some .int))
set_option maxRecDepth 100000 in
theorem sbJ2_indexOfCharUnsafe_4cfef : SB mJ2_indexOfCharUnsafe_4cfef 4 := ⟨gw_of 154 rfl rfl, gw_of 696 rfl rfl, ⟨by decide +kernel, by decide +kernel, by decide +kernel⟩, by decide⟩
set_option maxRecDepth 100000 in
theorem stJ2_indexOfCharUnsafe_4cfef : Cond.static mJ2_indexOfCharUnsafe_4cfef.1 ∈ GW := gw_of 695 rfl rfl
abbrev mJ2_indexOfSupplementary_4cfef : MI := (yJ2_indexOfSupplementary_4cfef, cJ2_indexOfSupplementary_4cfef, 7, (some .int))
set_option maxRecDepth 100000 in
theorem sbJ2_indexOfSupplementary_4cfef : SB mJ2_indexOfSupplementary_4cfef 4 := ⟨gw_of 154 rfl rfl, gw_of 699 rfl rfl, ⟨by decide +kernel, by decide +kernel, by decide +kernel⟩, by decide⟩
set_option maxRecDepth 100000 in
theorem stJ2_indexOfSupplementary_4cfef : Cond.static mJ2_indexOfSupplementary_4cfef.1 ∈ GW := gw_of 698 rfl rfl
abbrev mJ11_isValidCodePoint_9a6ad : MI := (yJ11_isValidCodePoint_9a6ad, cJ11_isValidCodePoint_9a6ad, 2, (some .boolean))
set_option maxRecDepth 100000 in
theorem sbJ11_isValidCodePoint_9a6ad : SB mJ11_isValidCodePoint_9a6ad 1 := ⟨gw_of 156 rfl rfl, gw_of 702 rfl rfl, ⟨by decide +kernel, by decide +kernel, by decide +kernel⟩, by decide⟩
set_option maxRecDepth 100000 in
theorem stJ11_isValidCodePoint_9a6ad : Cond.static mJ11_isValidCodePoint_9a6ad.1 ∈ GW := gw_of 701 rfl rfl
abbrev mJ11_highSurrogate_5068e : MI := (yJ11_highSurrogate_5068e, cJ11_highSurrogate_5068e, 1, (some .char))
set_option maxRecDepth 100000 in
theorem sbJ11_highSurrogate_5068e : SB mJ11_highSurrogate_5068e 1 := ⟨gw_of 156 rfl rfl, gw_of 705 rfl rfl, ⟨by decide +kernel, by decide +kernel, by decide +kernel⟩, by decide⟩
set_option maxRecDepth 100000 in
theorem stJ11_highSurrogate_5068e : Cond.static mJ11_highSurrogate_5068e.1 ∈ GW := gw_of 704 rfl rfl
abbrev mJ11_lowSurrogate_5068e : MI := (yJ11_lowSurrogate_5068e, cJ11_lowSurrogate_5068e, 1, (some .char))
set_option maxRecDepth 100000 in
theorem sbJ11_lowSurrogate_5068e : SB mJ11_lowSurrogate_5068e 1 := ⟨gw_of 156 rfl rfl, gw_of 709 rfl rfl, ⟨by decide +kernel, by decide +kernel, by decide +kernel⟩, by decide⟩
set_option maxRecDepth 100000 in
theorem stJ11_lowSurrogate_5068e : Cond.static mJ11_lowSurrogate_5068e.1 ∈ GW := gw_of 708 rfl rfl
abbrev mX6_isSumSign : MI := (yX6_isSumSign, cX6_isSumSign, 1, (some .boolean))
set_option maxRecDepth 100000 in
theorem sbX6_isSumSign : SB mX6_isSumSign 1 := ⟨gw_of 144 rfl rfl, gw_of 713 rfl rfl, ⟨by decide +kernel, by decide +kernel, by decide +kernel⟩, by decide⟩
set_option maxRecDepth 100000 in
theorem stX6_isSumSign : Cond.static mX6_isSumSign.1 ∈ GW := gw_of 712 rfl rfl
abbrev mX2_clear : MI := (yX2_clear, cX2_clear, 1, none)
set_option maxRecDepth 100000 in
theorem sbX2_clear : SB mX2_clear 0 := ⟨gw_of 145 rfl rfl, gw_of 718 rfl rfl, ⟨by decide +kernel, by decide +kernel, by decide +kernel⟩, by decide⟩
set_option maxRecDepth 100000 in
theorem inX2_clear : Cond.instanceMethod mX2_clear.1 ∈ GW := gw_of 716 rfl rfl
set_option maxRecDepth 100000 in
theorem seX2_clear : Cond.selects mX2_clear.1.cls mX2_clear.1 mX2_clear.1 ∈ GW := gw_of 717 rfl rfl
abbrev mX4_clear : MI := (yX4_clear, cX4_clear, 1, none)
set_option maxRecDepth 100000 in
theorem sbX4_clear : SB mX4_clear 0 := ⟨gw_of 146 rfl rfl, gw_of 722 rfl rfl, ⟨by decide +kernel, by decide +kernel, by decide +kernel⟩, by decide⟩
set_option maxRecDepth 100000 in
theorem inX4_clear : Cond.instanceMethod mX4_clear.1 ∈ GW := gw_of 720 rfl rfl
set_option maxRecDepth 100000 in
theorem seX4_clear : Cond.selects mX4_clear.1.cls mX4_clear.1 mX4_clear.1 ∈ GW := gw_of 721 rfl rfl
abbrev mX1_isNow : MI := (yX1_isNow, cX1_isNow, 2, (some .boolean))
set_option maxRecDepth 100000 in
theorem sbX1_isNow : SB mX1_isNow 1 := ⟨gw_of 143 rfl rfl, gw_of 726 rfl rfl, ⟨by decide +kernel, by decide +kernel, by decide +kernel⟩, by decide⟩
set_option maxRecDepth 100000 in
theorem inX1_isNow : Cond.instanceMethod mX1_isNow.1 ∈ GW := gw_of 725 rfl rfl
set_option maxRecDepth 100000 in
theorem seX1_isNow : Cond.selects mX1_isNow.1.cls mX1_isNow.1 mX1_isNow.1 ∈ GW := gw_of 5 rfl rfl
abbrev mX1_readBlock : MI := (yX1_readBlock, cX1_readBlock, 4, (some .boolean))
set_option maxRecDepth 100000 in
theorem sbX1_readBlock : SB mX1_readBlock 1 := ⟨gw_of 143 rfl rfl, gw_of 730 rfl rfl, ⟨by decide +kernel, by decide +kernel, by decide +kernel⟩, by decide⟩
set_option maxRecDepth 100000 in
theorem inX1_readBlock : Cond.instanceMethod mX1_readBlock.1 ∈ GW := gw_of 729 rfl rfl
set_option maxRecDepth 100000 in
theorem seX1_readBlock : Cond.selects mX1_readBlock.1.cls mX1_readBlock.1 mX1_readBlock.1 ∈ GW := gw_of 6 rfl rfl
abbrev mX1_refuse : MI := (yX1_refuse, cX1_refuse, 2, (some .boolean))
set_option maxRecDepth 100000 in
theorem sbX1_refuse : SB mX1_refuse 1 := ⟨gw_of 143 rfl rfl, gw_of 734 rfl rfl, ⟨by decide +kernel, by decide +kernel, by decide +kernel⟩, by decide⟩
set_option maxRecDepth 100000 in
theorem inX1_refuse : Cond.instanceMethod mX1_refuse.1 ∈ GW := gw_of 733 rfl rfl
set_option maxRecDepth 100000 in
theorem seX1_refuse : Cond.selects mX1_refuse.1.cls mX1_refuse.1 mX1_refuse.1 ∈ GW := gw_of 7 rfl rfl
abbrev mX2_addBlock : MI := (yX2_addBlock, cX2_addBlock, 1, none)
set_option maxRecDepth 100000 in
theorem sbX2_addBlock : SB mX2_addBlock 0 := ⟨gw_of 145 rfl rfl, gw_of 738 rfl rfl, ⟨by decide +kernel, by decide +kernel, by decide +kernel⟩, by decide⟩
set_option maxRecDepth 100000 in
theorem inX2_addBlock : Cond.instanceMethod mX2_addBlock.1 ∈ GW := gw_of 736 rfl rfl
set_option maxRecDepth 100000 in
theorem seX2_addBlock : Cond.selects mX2_addBlock.1.cls mX2_addBlock.1 mX2_addBlock.1 ∈ GW := gw_of 737 rfl rfl
abbrev mX1_takeSign : MI := (yX1_takeSign, cX1_takeSign, 2, (some .boolean))
set_option maxRecDepth 100000 in
theorem sbX1_takeSign : SB mX1_takeSign 1 := ⟨gw_of 143 rfl rfl, gw_of 742 rfl rfl, ⟨by decide +kernel, by decide +kernel, by decide +kernel⟩, by decide⟩
set_option maxRecDepth 100000 in
theorem inX1_takeSign : Cond.instanceMethod mX1_takeSign.1 ∈ GW := gw_of 741 rfl rfl
set_option maxRecDepth 100000 in
theorem seX1_takeSign : Cond.selects mX1_takeSign.1.cls mX1_takeSign.1 mX1_takeSign.1 ∈ GW := gw_of 8 rfl rfl
abbrev mX1_kindThatBegins : MI := (yX1_kindThatBegins, cX1_kindThatBegins, 1, (some .int))
set_option maxRecDepth 100000 in
theorem sbX1_kindThatBegins : SB mX1_kindThatBegins 0 := ⟨gw_of 143 rfl rfl, gw_of 746 rfl rfl, ⟨by decide +kernel, by decide +kernel, by decide +kernel⟩, by decide⟩
set_option maxRecDepth 100000 in
theorem inX1_kindThatBegins : Cond.instanceMethod mX1_kindThatBegins.1 ∈ GW := gw_of 745 rfl rfl
set_option maxRecDepth 100000 in
theorem seX1_kindThatBegins : Cond.selects mX1_kindThatBegins.1.cls mX1_kindThatBegins.1 mX1_kindThatBegins.1 ∈ GW := gw_of 9 rfl rfl
abbrev mX1_readStatement : MI := (yX1_readStatement, cX1_readStatement, 4, (some .boolean))
set_option maxRecDepth 100000 in
theorem sbX1_readStatement : SB mX1_readStatement 1 := ⟨gw_of 143 rfl rfl, gw_of 750 rfl rfl, ⟨by decide +kernel, by decide +kernel, by decide +kernel⟩, by decide⟩
set_option maxRecDepth 100000 in
theorem inX1_readStatement : Cond.instanceMethod mX1_readStatement.1 ∈ GW := gw_of 749 rfl rfl
set_option maxRecDepth 100000 in
theorem seX1_readStatement : Cond.selects mX1_readStatement.1.cls mX1_readStatement.1 mX1_readStatement.1 ∈ GW := gw_of 10 rfl rfl
abbrev mX2_addNode : MI := (yX2_addNode, cX2_addNode, 4, (some .int))
set_option maxRecDepth 100000 in
theorem sbX2_addNode : SB mX2_addNode 2 := ⟨gw_of 145 rfl rfl, gw_of 754 rfl rfl, ⟨by decide +kernel, by decide +kernel, by decide +kernel⟩, by decide⟩
set_option maxRecDepth 100000 in
theorem inX2_addNode : Cond.instanceMethod mX2_addNode.1 ∈ GW := gw_of 752 rfl rfl
set_option maxRecDepth 100000 in
theorem seX2_addNode : Cond.selects mX2_addNode.1.cls mX2_addNode.1 mX2_addNode.1 ∈ GW := gw_of 753 rfl rfl
abbrev mX2_newNode : MI := (yX2_newNode, cX2_newNode, 5, (some .int))
set_option maxRecDepth 100000 in
theorem sbX2_newNode : SB mX2_newNode 2 := ⟨gw_of 145 rfl rfl, gw_of 758 rfl rfl, ⟨by decide +kernel, by decide +kernel, by decide +kernel⟩, by decide⟩
set_option maxRecDepth 100000 in
theorem inX2_newNode : Cond.instanceMethod mX2_newNode.1 ∈ GW := gw_of 757 rfl rfl
set_option maxRecDepth 100000 in
theorem seX2_newNode : Cond.selects mX2_newNode.1.cls mX2_newNode.1 mX2_newNode.1 ∈ GW := gw_of 11 rfl rfl
abbrev mX1_readValue : MI := (yX1_readValue, cX1_readValue, 4, (some .boolean))
set_option maxRecDepth 100000 in
theorem sbX1_readValue : SB mX1_readValue 1 := ⟨gw_of 143 rfl rfl, gw_of 763 rfl rfl, ⟨by decide +kernel, by decide +kernel, by decide +kernel⟩, by decide⟩
set_option maxRecDepth 100000 in
theorem inX1_readValue : Cond.instanceMethod mX1_readValue.1 ∈ GW := gw_of 762 rfl rfl
set_option maxRecDepth 100000 in
theorem seX1_readValue : Cond.selects mX1_readValue.1.cls mX1_readValue.1 mX1_readValue.1 ∈ GW := gw_of 12 rfl rfl
abbrev mX1_readOperand : MI := (yX1_readOperand, cX1_readOperand, 4, (some .boolean))
set_option maxRecDepth 100000 in
theorem sbX1_readOperand : SB mX1_readOperand 2 := ⟨gw_of 143 rfl rfl, gw_of 767 rfl rfl, ⟨by decide +kernel, by decide +kernel, by decide +kernel⟩, by decide⟩
set_option maxRecDepth 100000 in
theorem inX1_readOperand : Cond.instanceMethod mX1_readOperand.1 ∈ GW := gw_of 766 rfl rfl
set_option maxRecDepth 100000 in
theorem seX1_readOperand : Cond.selects mX1_readOperand.1.cls mX1_readOperand.1 mX1_readOperand.1 ∈ GW := gw_of 13 rfl rfl
abbrev mX2_makeSum : MI := (yX2_makeSum, cX2_makeSum, 5, none)
set_option maxRecDepth 100000 in
theorem sbX2_makeSum : SB mX2_makeSum 4 := ⟨gw_of 145 rfl rfl, gw_of 772 rfl rfl, ⟨by decide +kernel, by decide +kernel, by decide +kernel⟩, by decide⟩
set_option maxRecDepth 100000 in
theorem inX2_makeSum : Cond.instanceMethod mX2_makeSum.1 ∈ GW := gw_of 770 rfl rfl
set_option maxRecDepth 100000 in
theorem seX2_makeSum : Cond.selects mX2_makeSum.1.cls mX2_makeSum.1 mX2_makeSum.1 ∈ GW := gw_of 771 rfl rfl
abbrev mX4_numberFor : MI := (yX4_numberFor, cX4_numberFor, 5, (some .int))
set_option maxRecDepth 100000 in
theorem sbX4_numberFor : SB mX4_numberFor 3 := ⟨gw_of 146 rfl rfl, gw_of 776 rfl rfl, ⟨by decide +kernel, by decide +kernel, by decide +kernel⟩, by decide⟩
set_option maxRecDepth 100000 in
theorem inX4_numberFor : Cond.instanceMethod mX4_numberFor.1 ∈ GW := gw_of 774 rfl rfl
set_option maxRecDepth 100000 in
theorem seX4_numberFor : Cond.selects mX4_numberFor.1.cls mX4_numberFor.1 mX4_numberFor.1 ∈ GW := gw_of 775 rfl rfl
abbrev mX1_readWay : MI := (yX1_readWay, cX1_readWay, 3, (some .boolean))
set_option maxRecDepth 100000 in
theorem sbX1_readWay : SB mX1_readWay 2 := ⟨gw_of 143 rfl rfl, gw_of 781 rfl rfl, ⟨by decide +kernel, by decide +kernel, by decide +kernel⟩, by decide⟩
set_option maxRecDepth 100000 in
theorem inX1_readWay : Cond.instanceMethod mX1_readWay.1 ∈ GW := gw_of 780 rfl rfl
set_option maxRecDepth 100000 in
theorem seX1_readWay : Cond.selects mX1_readWay.1.cls mX1_readWay.1 mX1_readWay.1 ∈ GW := gw_of 14 rfl rfl
abbrev mX1_areNamedBlocksThere : MI := (yX1_areNamedBlocksThere, cX1_areNamedBlocksThere, 5, (some .boolean))
set_option maxRecDepth 100000 in
theorem sbX1_areNamedBlocksThere : SB mX1_areNamedBlocksThere 0 := ⟨gw_of 143 rfl rfl, gw_of 785 rfl rfl, ⟨by decide +kernel, by decide +kernel, by decide +kernel⟩, by decide⟩
set_option maxRecDepth 100000 in
theorem inX1_areNamedBlocksThere : Cond.instanceMethod mX1_areNamedBlocksThere.1 ∈ GW := gw_of 784 rfl rfl
set_option maxRecDepth 100000 in
theorem seX1_areNamedBlocksThere : Cond.selects mX1_areNamedBlocksThere.1.cls mX1_areNamedBlocksThere.1 mX1_areNamedBlocksThere.1 ∈ GW := gw_of 15 rfl rfl
abbrev mX2_endOf : MI := (yX2_endOf, cX2_endOf, 2, (some .int))
set_option maxRecDepth 100000 in
theorem sbX2_endOf : SB mX2_endOf 1 := ⟨gw_of 145 rfl rfl, gw_of 789 rfl rfl, ⟨by decide +kernel, by decide +kernel, by decide +kernel⟩, by decide⟩
set_option maxRecDepth 100000 in
theorem inX2_endOf : Cond.instanceMethod mX2_endOf.1 ∈ GW := gw_of 787 rfl rfl
set_option maxRecDepth 100000 in
theorem seX2_endOf : Cond.selects mX2_endOf.1.cls mX2_endOf.1 mX2_endOf.1 ∈ GW := gw_of 788 rfl rfl
abbrev mX1_refuseAt : MI := (yX1_refuseAt, cX1_refuseAt, 3, (some .boolean))
set_option maxRecDepth 100000 in
theorem sbX1_refuseAt : SB mX1_refuseAt 2 := ⟨gw_of 143 rfl rfl, gw_of 794 rfl rfl, ⟨by decide +kernel, by decide +kernel, by decide +kernel⟩, by decide⟩
set_option maxRecDepth 100000 in
theorem inX1_refuseAt : Cond.instanceMethod mX1_refuseAt.1 ∈ GW := gw_of 793 rfl rfl
set_option maxRecDepth 100000 in
theorem seX1_refuseAt : Cond.selects mX1_refuseAt.1.cls mX1_refuseAt.1 mX1_refuseAt.1 ∈ GW := gw_of 16 rfl rfl
abbrev mX2_blocksComeTo : MI := (yX2_blocksComeTo, cX2_blocksComeTo, 5, (some .long))
set_option maxRecDepth 100000 in
theorem sbX2_blocksComeTo : SB mX2_blocksComeTo 0 := ⟨gw_of 145 rfl rfl, gw_of 798 rfl rfl, ⟨by decide +kernel, by decide +kernel, by decide +kernel⟩, by decide⟩
set_option maxRecDepth 100000 in
theorem inX2_blocksComeTo : Cond.instanceMethod mX2_blocksComeTo.1 ∈ GW := gw_of 796 rfl rfl
set_option maxRecDepth 100000 in
theorem seX2_blocksComeTo : Cond.selects mX2_blocksComeTo.1.cls mX2_blocksComeTo.1 mX2_blocksComeTo.1 ∈ GW := gw_of 797 rfl rfl
abbrev mX2_blocksNamedBy : MI := (yX2_blocksNamedBy, cX2_blocksNamedBy, 5, (some .long))
set_option maxRecDepth 100000 in
theorem sbX2_blocksNamedBy : SB mX2_blocksNamedBy 1 := ⟨gw_of 145 rfl rfl, gw_of 802 rfl rfl, ⟨by decide +kernel, by decide +kernel, by decide +kernel⟩, by decide⟩
set_option maxRecDepth 100000 in
theorem inX2_blocksNamedBy : Cond.instanceMethod mX2_blocksNamedBy.1 ∈ GW := gw_of 801 rfl rfl
set_option maxRecDepth 100000 in
theorem seX2_blocksNamedBy : Cond.selects mX2_blocksNamedBy.1.cls mX2_blocksNamedBy.1 mX2_blocksNamedBy.1 ∈ GW := gw_of 17 rfl rfl
abbrev mX1_areAllIn : MI := (yX1_areAllIn, cX1_areAllIn, 5, (some .boolean))
set_option maxRecDepth 100000 in
theorem sbX1_areAllIn : SB mX1_areAllIn 2 := ⟨gw_of 143 rfl rfl, gw_of 807 rfl rfl, ⟨by decide +kernel, by decide +kernel, by decide +kernel⟩, by decide⟩
set_option maxRecDepth 100000 in
theorem inX1_areAllIn : Cond.instanceMethod mX1_areAllIn.1 ∈ GW := gw_of 806 rfl rfl
set_option maxRecDepth 100000 in
theorem seX1_areAllIn : Cond.selects mX1_areAllIn.1.cls mX1_areAllIn.1 mX1_areAllIn.1 ∈ GW := gw_of 18 rfl rfl
abbrev mX2_blocksThatLeave : MI := (yX2_blocksThatLeave, cX2_blocksThatLeave, 5, (some .long))
set_option maxRecDepth 100000 in
theorem sbX2_blocksThatLeave : SB mX2_blocksThatLeave 0 := ⟨gw_of 145 rfl rfl, gw_of 811 rfl rfl, ⟨by decide +kernel, by decide +kernel, by decide +kernel⟩, by decide⟩
set_option maxRecDepth 100000 in
theorem inX2_blocksThatLeave : Cond.instanceMethod mX2_blocksThatLeave.1 ∈ GW := gw_of 809 rfl rfl
set_option maxRecDepth 100000 in
theorem seX2_blocksThatLeave : Cond.selects mX2_blocksThatLeave.1.cls mX2_blocksThatLeave.1 mX2_blocksThatLeave.1 ∈ GW := gw_of 810 rfl rfl
abbrev mX2_finish : MI := (yX2_finish, cX2_finish, 2, none)
set_option maxRecDepth 100000 in
theorem sbX2_finish : SB mX2_finish 0 := ⟨gw_of 145 rfl rfl, gw_of 815 rfl rfl, ⟨by decide +kernel, by decide +kernel, by decide +kernel⟩, by decide⟩
set_option maxRecDepth 100000 in
theorem inX2_finish : Cond.instanceMethod mX2_finish.1 ∈ GW := gw_of 813 rfl rfl
set_option maxRecDepth 100000 in
theorem seX2_finish : Cond.selects mX2_finish.1.cls mX2_finish.1 mX2_finish.1 ∈ GW := gw_of 814 rfl rfl
abbrev mX2_linkNode : MI := (yX2_linkNode, cX2_linkNode, 4, none)
set_option maxRecDepth 100000 in
theorem sbX2_linkNode : SB mX2_linkNode 1 := ⟨gw_of 145 rfl rfl, gw_of 819 rfl rfl, ⟨by decide +kernel, by decide +kernel, by decide +kernel⟩, by decide⟩
set_option maxRecDepth 100000 in
theorem inX2_linkNode : Cond.instanceMethod mX2_linkNode.1 ∈ GW := gw_of 818 rfl rfl
set_option maxRecDepth 100000 in
theorem seX2_linkNode : Cond.selects mX2_linkNode.1.cls mX2_linkNode.1 mX2_linkNode.1 ∈ GW := gw_of 19 rfl rfl
abbrev mX2_countWaysTo : MI := (yX2_countWaysTo, cX2_countWaysTo, 4, (some .int))
set_option maxRecDepth 100000 in
theorem sbX2_countWaysTo : SB mX2_countWaysTo 1 := ⟨gw_of 145 rfl rfl, gw_of 823 rfl rfl, ⟨by decide +kernel, by decide +kernel, by decide +kernel⟩, by decide⟩
set_option maxRecDepth 100000 in
theorem inX2_countWaysTo : Cond.instanceMethod mX2_countWaysTo.1 ∈ GW := gw_of 822 rfl rfl
set_option maxRecDepth 100000 in
theorem seX2_countWaysTo : Cond.selects mX2_countWaysTo.1.cls mX2_countWaysTo.1 mX2_countWaysTo.1 ∈ GW := gw_of 20 rfl rfl
abbrev mX2_addOnTheWay : MI := (yX2_addOnTheWay, cX2_addOnTheWay, 3, (some .int))
set_option maxRecDepth 100000 in
theorem sbX2_addOnTheWay : SB mX2_addOnTheWay 1 := ⟨gw_of 145 rfl rfl, gw_of 827 rfl rfl, ⟨by decide +kernel, by decide +kernel, by decide +kernel⟩, by decide⟩
set_option maxRecDepth 100000 in
theorem inX2_addOnTheWay : Cond.instanceMethod mX2_addOnTheWay.1 ∈ GW := gw_of 826 rfl rfl
set_option maxRecDepth 100000 in
theorem seX2_addOnTheWay : Cond.selects mX2_addOnTheWay.1.cls mX2_addOnTheWay.1 mX2_addOnTheWay.1 ∈ GW := gw_of 21 rfl rfl
abbrev mX2_countLedBy : MI := (yX2_countLedBy, cX2_countLedBy, 3, none)
set_option maxRecDepth 100000 in
theorem sbX2_countLedBy : SB mX2_countLedBy 0 := ⟨gw_of 145 rfl rfl, gw_of 831 rfl rfl, ⟨by decide +kernel, by decide +kernel, by decide +kernel⟩, by decide⟩
set_option maxRecDepth 100000 in
theorem inX2_countLedBy : Cond.instanceMethod mX2_countLedBy.1 ∈ GW := gw_of 830 rfl rfl
set_option maxRecDepth 100000 in
theorem seX2_countLedBy : Cond.selects mX2_countLedBy.1.cls mX2_countLedBy.1 mX2_countLedBy.1 ∈ GW := gw_of 22 rfl rfl
abbrev mJ7_fill_53178 : MI := (yJ7_fill_53178, cJ7_fill_53178, 4, none)
set_option maxRecDepth 100000 in
theorem sbJ7_fill_53178 : SB mJ7_fill_53178 2 := ⟨gw_of 157 rfl rfl, gw_of 834 rfl rfl, ⟨by decide +kernel, by decide +kernel, by decide +kernel⟩, by decide⟩
set_option maxRecDepth 100000 in
theorem stJ7_fill_53178 : Cond.static mJ7_fill_53178.1 ∈ GW := gw_of 833 rfl rfl
abbrev mX0_find : MI := (yX0_find, cX0_find, 3, none)
set_option maxRecDepth 100000 in
theorem sbX0_find : SB mX0_find 1 := ⟨gw_of 147 rfl rfl, gw_of 838 rfl rfl, ⟨by decide +kernel, by decide +kernel, by decide +kernel⟩, by decide⟩
set_option maxRecDepth 100000 in
theorem inX0_find : Cond.instanceMethod mX0_find.1 ∈ GW := gw_of 836 rfl rfl
set_option maxRecDepth 100000 in
theorem seX0_find : Cond.selects mX0_find.1.cls mX0_find.1 mX0_find.1 ∈ GW := gw_of 837 rfl rfl
abbrev mX4_everyOne : MI := (yX4_everyOne, cX4_everyOne, 1, (some .int))
set_option maxRecDepth 100000 in
theorem sbX4_everyOne : SB mX4_everyOne 0 := ⟨gw_of 146 rfl rfl, gw_of 842 rfl rfl, ⟨by decide +kernel, by decide +kernel, by decide +kernel⟩, by decide⟩
set_option maxRecDepth 100000 in
theorem inX4_everyOne : Cond.instanceMethod mX4_everyOne.1 ∈ GW := gw_of 840 rfl rfl
set_option maxRecDepth 100000 in
theorem seX4_everyOne : Cond.selects mX4_everyOne.1.cls mX4_everyOne.1 mX4_everyOne.1 ∈ GW := gw_of 841 rfl rfl
abbrev mX0_findWorksAndKills : MI := (yX0_findWorksAndKills, cX0_findWorksAndKills, 3, none)
set_option maxRecDepth 100000 in
theorem sbX0_findWorksAndKills : SB mX0_findWorksAndKills 2 := ⟨gw_of 147 rfl rfl, gw_of 846 rfl rfl, ⟨by decide +kernel, by decide +kernel, by decide +kernel⟩, by decide⟩
set_option maxRecDepth 100000 in
theorem inX0_findWorksAndKills : Cond.instanceMethod mX0_findWorksAndKills.1 ∈ GW := gw_of 845 rfl rfl
set_option maxRecDepth 100000 in
theorem seX0_findWorksAndKills : Cond.selects mX0_findWorksAndKills.1.cls mX0_findWorksAndKills.1 mX0_findWorksAndKills.1 ∈ GW := gw_of 23 rfl rfl
abbrev mX4_withName : MI := (yX4_withName, cX4_withName, 5, (some .int))
set_option maxRecDepth 100000 in
theorem sbX4_withName : SB mX4_withName 1 := ⟨gw_of 146 rfl rfl, gw_of 850 rfl rfl, ⟨by decide +kernel, by decide +kernel, by decide +kernel⟩, by decide⟩
set_option maxRecDepth 100000 in
theorem inX4_withName : Cond.instanceMethod mX4_withName.1 ∈ GW := gw_of 848 rfl rfl
set_option maxRecDepth 100000 in
theorem seX4_withName : Cond.selects mX4_withName.1.cls mX4_withName.1 mX4_withName.1 ∈ GW := gw_of 849 rfl rfl
abbrev mX4_ofRow : MI := (yX4_ofRow, cX4_ofRow, 4, (some .int))
set_option maxRecDepth 100000 in
theorem sbX4_ofRow : SB mX4_ofRow 1 := ⟨gw_of 146 rfl rfl, gw_of 855 rfl rfl, ⟨by decide +kernel, by decide +kernel, by decide +kernel⟩, by decide⟩
set_option maxRecDepth 100000 in
theorem inX4_ofRow : Cond.instanceMethod mX4_ofRow.1 ∈ GW := gw_of 853 rfl rfl
set_option maxRecDepth 100000 in
theorem seX4_ofRow : Cond.selects mX4_ofRow.1.cls mX4_ofRow.1 mX4_ofRow.1 ∈ GW := gw_of 854 rfl rfl
abbrev mX0_findWanted : MI := (yX0_findWanted, cX0_findWanted, 8, none)
set_option maxRecDepth 100000 in
theorem sbX0_findWanted : SB mX0_findWanted 1 := ⟨gw_of 147 rfl rfl, gw_of 859 rfl rfl, ⟨by decide +kernel, by decide +kernel, by decide +kernel⟩, by decide⟩
set_option maxRecDepth 100000 in
theorem inX0_findWanted : Cond.instanceMethod mX0_findWanted.1 ∈ GW := gw_of 858 rfl rfl
set_option maxRecDepth 100000 in
theorem seX0_findWanted : Cond.selects mX0_findWanted.1.cls mX0_findWanted.1 mX0_findWanted.1 ∈ GW := gw_of 24 rfl rfl
abbrev mX4_boldOnes : MI := (yX4_boldOnes, cX4_boldOnes, 3, (some .int))
set_option maxRecDepth 100000 in
theorem sbX4_boldOnes : SB mX4_boldOnes 0 := ⟨gw_of 146 rfl rfl, gw_of 863 rfl rfl, ⟨by decide +kernel, by decide +kernel, by decide +kernel⟩, by decide⟩
set_option maxRecDepth 100000 in
theorem inX4_boldOnes : Cond.instanceMethod mX4_boldOnes.1 ∈ GW := gw_of 861 rfl rfl
set_option maxRecDepth 100000 in
theorem seX4_boldOnes : Cond.selects mX4_boldOnes.1.cls mX4_boldOnes.1 mX4_boldOnes.1 ∈ GW := gw_of 862 rfl rfl
abbrev mX4_isBold : MI := (yX4_isBold, cX4_isBold, 2, (some .boolean))
set_option maxRecDepth 100000 in
theorem sbX4_isBold : SB mX4_isBold 1 := ⟨gw_of 146 rfl rfl, gw_of 867 rfl rfl, ⟨by decide +kernel, by decide +kernel, by decide +kernel⟩, by decide⟩
set_option maxRecDepth 100000 in
theorem inX4_isBold : Cond.instanceMethod mX4_isBold.1 ∈ GW := gw_of 865 rfl rfl
set_option maxRecDepth 100000 in
theorem seX4_isBold : Cond.selects mX4_isBold.1.cls mX4_isBold.1 mX4_isBold.1 ∈ GW := gw_of 866 rfl rfl
abbrev mX0_isSeen : MI := (yX0_isSeen, cX0_isSeen, 4, (some .boolean))
set_option maxRecDepth 100000 in
theorem sbX0_isSeen : SB mX0_isSeen 3 := ⟨gw_of 147 rfl rfl, gw_of 872 rfl rfl, ⟨by decide +kernel, by decide +kernel, by decide +kernel⟩, by decide⟩
set_option maxRecDepth 100000 in
theorem inX0_isSeen : Cond.instanceMethod mX0_isSeen.1 ∈ GW := gw_of 871 rfl rfl
set_option maxRecDepth 100000 in
theorem seX0_isSeen : Cond.selects mX0_isSeen.1.cls mX0_isSeen.1 mX0_isSeen.1 ∈ GW := gw_of 25 rfl rfl
abbrev mX0_allNext : MI := (yX0_allNext, cX0_allNext, 6, (some .int))
set_option maxRecDepth 100000 in
theorem sbX0_allNext : SB mX0_allNext 3 := ⟨gw_of 147 rfl rfl, gw_of 876 rfl rfl, ⟨by decide +kernel, by decide +kernel, by decide +kernel⟩, by decide⟩
set_option maxRecDepth 100000 in
theorem inX0_allNext : Cond.instanceMethod mX0_allNext.1 ∈ GW := gw_of 875 rfl rfl
set_option maxRecDepth 100000 in
theorem seX0_allNext : Cond.selects mX0_allNext.1.cls mX0_allNext.1 mX0_allNext.1 ∈ GW := gw_of 26 rfl rfl
abbrev mX0_findThere : MI := (yX0_findThere, cX0_findThere, 5, none)
set_option maxRecDepth 100000 in
theorem sbX0_findThere : SB mX0_findThere 1 := ⟨gw_of 147 rfl rfl, gw_of 880 rfl rfl, ⟨by decide +kernel, by decide +kernel, by decide +kernel⟩, by decide⟩
set_option maxRecDepth 100000 in
theorem inX0_findThere : Cond.instanceMethod mX0_findThere.1 ∈ GW := gw_of 879 rfl rfl
set_option maxRecDepth 100000 in
theorem seX0_findThere : Cond.selects mX0_findThere.1.cls mX0_findThere.1 mX0_findThere.1 ∈ GW := gw_of 27 rfl rfl
abbrev mX0_keepInNext : MI := (yX0_keepInNext, cX0_keepInNext, 10, (some .boolean))
set_option maxRecDepth 100000 in
theorem sbX0_keepInNext : SB mX0_keepInNext 5 := ⟨gw_of 147 rfl rfl, gw_of 884 rfl rfl, ⟨by decide +kernel, by decide +kernel, by decide +kernel⟩, by decide⟩
set_option maxRecDepth 100000 in
theorem inX0_keepInNext : Cond.instanceMethod mX0_keepInNext.1 ∈ GW := gw_of 883 rfl rfl
set_option maxRecDepth 100000 in
theorem seX0_keepInNext : Cond.selects mX0_keepInNext.1.cls mX0_keepInNext.1 mX0_keepInNext.1 ∈ GW := gw_of 28 rfl rfl
abbrev mX0_findEarly : MI := (yX0_findEarly, cX0_findEarly, 6, none)
set_option maxRecDepth 100000 in
theorem sbX0_findEarly : SB mX0_findEarly 1 := ⟨gw_of 147 rfl rfl, gw_of 888 rfl rfl, ⟨by decide +kernel, by decide +kernel, by decide +kernel⟩, by decide⟩
set_option maxRecDepth 100000 in
theorem inX0_findEarly : Cond.instanceMethod mX0_findEarly.1 ∈ GW := gw_of 887 rfl rfl
set_option maxRecDepth 100000 in
theorem seX0_findEarly : Cond.selects mX0_findEarly.1.cls mX0_findEarly.1 mX0_findEarly.1 ∈ GW := gw_of 29 rfl rfl
abbrev mX0_findDelayed : MI := (yX0_findDelayed, cX0_findDelayed, 5, none)
set_option maxRecDepth 100000 in
theorem sbX0_findDelayed : SB mX0_findDelayed 1 := ⟨gw_of 147 rfl rfl, gw_of 892 rfl rfl, ⟨by decide +kernel, by decide +kernel, by decide +kernel⟩, by decide⟩
set_option maxRecDepth 100000 in
theorem inX0_findDelayed : Cond.instanceMethod mX0_findDelayed.1 ∈ GW := gw_of 891 rfl rfl
set_option maxRecDepth 100000 in
theorem seX0_findDelayed : Cond.selects mX0_findDelayed.1.cls mX0_findDelayed.1 mX0_findDelayed.1 ∈ GW := gw_of 30 rfl rfl
abbrev mX0_findAlone : MI := (yX0_findAlone, cX0_findAlone, 8, none)
set_option maxRecDepth 100000 in
theorem sbX0_findAlone : SB mX0_findAlone 1 := ⟨gw_of 147 rfl rfl, gw_of 896 rfl rfl, ⟨by decide +kernel, by decide +kernel, by decide +kernel⟩, by decide⟩
set_option maxRecDepth 100000 in
theorem inX0_findAlone : Cond.instanceMethod mX0_findAlone.1 ∈ GW := gw_of 895 rfl rfl
set_option maxRecDepth 100000 in
theorem seX0_findAlone : Cond.selects mX0_findAlone.1.cls mX0_findAlone.1 mX0_findAlone.1 ∈ GW := gw_of 31 rfl rfl
abbrev mX0_findAlive : MI := (yX0_findAlive, cX0_findAlive, 8, none)
set_option maxRecDepth 100000 in
theorem sbX0_findAlive : SB mX0_findAlive 3 := ⟨gw_of 147 rfl rfl, gw_of 900 rfl rfl, ⟨by decide +kernel, by decide +kernel, by decide +kernel⟩, by decide⟩
set_option maxRecDepth 100000 in
theorem inX0_findAlive : Cond.instanceMethod mX0_findAlive.1 ∈ GW := gw_of 899 rfl rfl
set_option maxRecDepth 100000 in
theorem seX0_findAlive : Cond.selects mX0_findAlive.1.cls mX0_findAlive.1 mX0_findAlive.1 ∈ GW := gw_of 32 rfl rfl
abbrev mX0_setAhead : MI := (yX0_setAhead, cX0_setAhead, 3, (some .int))
set_option maxRecDepth 100000 in
theorem sbX0_setAhead : SB mX0_setAhead 2 := ⟨gw_of 147 rfl rfl, gw_of 904 rfl rfl, ⟨by decide +kernel, by decide +kernel, by decide +kernel⟩, by decide⟩
set_option maxRecDepth 100000 in
theorem inX0_setAhead : Cond.instanceMethod mX0_setAhead.1 ∈ GW := gw_of 902 rfl rfl
set_option maxRecDepth 100000 in
theorem seX0_setAhead : Cond.selects mX0_setAhead.1.cls mX0_setAhead.1 mX0_setAhead.1 ∈ GW := gw_of 903 rfl rfl
abbrev mX0_taken : MI := (yX0_taken, cX0_taken, 3, (some .int))
set_option maxRecDepth 100000 in
theorem sbX0_taken : SB mX0_taken 2 := ⟨gw_of 147 rfl rfl, gw_of 908 rfl rfl, ⟨by decide +kernel, by decide +kernel, by decide +kernel⟩, by decide⟩
set_option maxRecDepth 100000 in
theorem inX0_taken : Cond.instanceMethod mX0_taken.1 ∈ GW := gw_of 906 rfl rfl
set_option maxRecDepth 100000 in
theorem seX0_taken : Cond.selects mX0_taken.1.cls mX0_taken.1 mX0_taken.1 ∈ GW := gw_of 907 rfl rfl
abbrev mX0_anyNext : MI := (yX0_anyNext, cX0_anyNext, 6, (some .int))
set_option maxRecDepth 100000 in
theorem sbX0_anyNext : SB mX0_anyNext 3 := ⟨gw_of 147 rfl rfl, gw_of 912 rfl rfl, ⟨by decide +kernel, by decide +kernel, by decide +kernel⟩, by decide⟩
set_option maxRecDepth 100000 in
theorem inX0_anyNext : Cond.instanceMethod mX0_anyNext.1 ∈ GW := gw_of 911 rfl rfl
set_option maxRecDepth 100000 in
theorem seX0_anyNext : Cond.selects mX0_anyNext.1.cls mX0_anyNext.1 mX0_anyNext.1 ∈ GW := gw_of 33 rfl rfl
abbrev mX8_wrong : MI := (yX8_wrong, cX8_wrong, 1, (some .int))
set_option maxRecDepth 100000 in
theorem sbX8_wrong : SB mX8_wrong 0 := ⟨gw_of 141 rfl rfl, gw_of 917 rfl rfl, ⟨by decide +kernel, by decide +kernel, by decide +kernel⟩, by decide⟩
set_option maxRecDepth 100000 in
theorem inX8_wrong : Cond.instanceMethod mX8_wrong.1 ∈ GW := gw_of 915 rfl rfl
set_option maxRecDepth 100000 in
theorem seX8_wrong : Cond.selects mX8_wrong.1.cls mX8_wrong.1 mX8_wrong.1 ∈ GW := gw_of 916 rfl rfl
abbrev mX8_about : MI := (yX8_about, cX8_about, 4, (some .int))
set_option maxRecDepth 100000 in
theorem sbX8_about : SB mX8_about 2 := ⟨gw_of 141 rfl rfl, gw_of 921 rfl rfl, ⟨by decide +kernel, by decide +kernel, by decide +kernel⟩, by decide⟩
set_option maxRecDepth 100000 in
theorem inX8_about : Cond.instanceMethod mX8_about.1 ∈ GW := gw_of 919 rfl rfl
set_option maxRecDepth 100000 in
theorem seX8_about : Cond.selects mX8_about.1.cls mX8_about.1 mX8_about.1 ∈ GW := gw_of 920 rfl rfl
abbrev mX8_routineAt : MI := (yX8_routineAt, cX8_routineAt, 2, (some (.object "LateAndEarly$Routine")))
set_option maxRecDepth 100000 in
theorem sbX8_routineAt : SB mX8_routineAt 1 := ⟨gw_of 141 rfl rfl, gw_of 925 rfl rfl, ⟨by decide +kernel, by decide +kernel, by decide +kernel⟩, by decide⟩
set_option maxRecDepth 100000 in
theorem inX8_routineAt : Cond.instanceMethod mX8_routineAt.1 ∈ GW := gw_of 924 rfl rfl
set_option maxRecDepth 100000 in
theorem seX8_routineAt : Cond.selects mX8_routineAt.1.cls mX8_routineAt.1 mX8_routineAt.1 ∈ GW := gw_of 34 rfl rfl
abbrev mX8_node : MI := (yX8_node, cX8_node, 5, (some .int))
set_option maxRecDepth 100000 in
theorem sbX8_node : SB mX8_node 3 := ⟨gw_of 141 rfl rfl, gw_of 929 rfl rfl, ⟨by decide +kernel, by decide +kernel, by decide +kernel⟩, by decide⟩
set_option maxRecDepth 100000 in
theorem inX8_node : Cond.instanceMethod mX8_node.1 ∈ GW := gw_of 927 rfl rfl
set_option maxRecDepth 100000 in
theorem seX8_node : Cond.selects mX8_node.1.cls mX8_node.1 mX8_node.1 ∈ GW := gw_of 928 rfl rfl
abbrev mX2_hasNode : MI := (yX2_hasNode, cX2_hasNode, 2, (some .boolean))
set_option maxRecDepth 100000 in
theorem sbX2_hasNode : SB mX2_hasNode 1 := ⟨gw_of 145 rfl rfl, gw_of 933 rfl rfl, ⟨by decide +kernel, by decide +kernel, by decide +kernel⟩, by decide⟩
set_option maxRecDepth 100000 in
theorem inX2_hasNode : Cond.instanceMethod mX2_hasNode.1 ∈ GW := gw_of 931 rfl rfl
set_option maxRecDepth 100000 in
theorem seX2_hasNode : Cond.selects mX2_hasNode.1.cls mX2_hasNode.1 mX2_hasNode.1 ∈ GW := gw_of 932 rfl rfl
abbrev mX8_sum : MI := (yX8_sum, cX8_sum, 5, (some .int))
set_option maxRecDepth 100000 in
theorem sbX8_sum : SB mX8_sum 3 := ⟨gw_of 141 rfl rfl, gw_of 937 rfl rfl, ⟨by decide +kernel, by decide +kernel, by decide +kernel⟩, by decide⟩
set_option maxRecDepth 100000 in
theorem inX8_sum : Cond.instanceMethod mX8_sum.1 ∈ GW := gw_of 935 rfl rfl
set_option maxRecDepth 100000 in
theorem seX8_sum : Cond.selects mX8_sum.1.cls mX8_sum.1 mX8_sum.1 ∈ GW := gw_of 936 rfl rfl
abbrev mX4_has : MI := (yX4_has, cX4_has, 2, (some .boolean))
set_option maxRecDepth 100000 in
theorem sbX4_has : SB mX4_has 1 := ⟨gw_of 146 rfl rfl, gw_of 941 rfl rfl, ⟨by decide +kernel, by decide +kernel, by decide +kernel⟩, by decide⟩
set_option maxRecDepth 100000 in
theorem inX4_has : Cond.instanceMethod mX4_has.1 ∈ GW := gw_of 939 rfl rfl
set_option maxRecDepth 100000 in
theorem seX4_has : Cond.selects mX4_has.1.cls mX4_has.1 mX4_has.1 ∈ GW := gw_of 940 rfl rfl
abbrev mX8_toldOperand : MI := (yX8_toldOperand, cX8_toldOperand, 1, (some .int))
set_option maxRecDepth 100000 in
theorem sbX8_toldOperand : SB mX8_toldOperand 1 := ⟨gw_of 141 rfl rfl, gw_of 944 rfl rfl, ⟨by decide +kernel, by decide +kernel, by decide +kernel⟩, by decide⟩
set_option maxRecDepth 100000 in
theorem stX8_toldOperand : Cond.static mX8_toldOperand.1 ∈ GW := gw_of 943 rfl rfl
abbrev mX8_isName : MI := (yX8_isName, cX8_isName, 1, (some .boolean))
set_option maxRecDepth 100000 in
theorem sbX8_isName : SB mX8_isName 1 := ⟨gw_of 141 rfl rfl, gw_of 949 rfl rfl, ⟨by decide +kernel, by decide +kernel, by decide +kernel⟩, by decide⟩
set_option maxRecDepth 100000 in
theorem stX8_isName : Cond.static mX8_isName.1 ∈ GW := gw_of 948 rfl rfl
abbrev mX2_countNodesThatWork : MI := (yX2_countNodesThatWork, cX2_countNodesThatWork, 4, (some .int))
set_option maxRecDepth 100000 in
theorem sbX2_countNodesThatWork : SB mX2_countNodesThatWork 1 := ⟨gw_of 145 rfl rfl, gw_of 956 rfl rfl, ⟨by decide +kernel, by decide +kernel, by decide +kernel⟩, by decide⟩
set_option maxRecDepth 100000 in
theorem inX2_countNodesThatWork : Cond.instanceMethod mX2_countNodesThatWork.1 ∈ GW := gw_of 954 rfl rfl
set_option maxRecDepth 100000 in
theorem seX2_countNodesThatWork : Cond.selects mX2_countNodesThatWork.1.cls mX2_countNodesThatWork.1 mX2_countNodesThatWork.1 ∈ GW := gw_of 955 rfl rfl
abbrev mX8_at : MI := (yX8_at, cX8_at, 6, (some .int))
set_option maxRecDepth 100000 in
theorem sbX8_at : SB mX8_at 4 := ⟨gw_of 141 rfl rfl, gw_of 960 rfl rfl, ⟨by decide +kernel, by decide +kernel, by decide +kernel⟩, by decide⟩
set_option maxRecDepth 100000 in
theorem inX8_at : Cond.instanceMethod mX8_at.1 ∈ GW := gw_of 958 rfl rfl
set_option maxRecDepth 100000 in
theorem seX8_at : Cond.selects mX8_at.1.cls mX8_at.1 mX8_at.1 ∈ GW := gw_of 959 rfl rfl
abbrev mX0_setAt : MI := (yX0_setAt, cX0_setAt, 3, (some .int))
set_option maxRecDepth 100000 in
theorem sbX0_setAt : SB mX0_setAt 2 := ⟨gw_of 147 rfl rfl, gw_of 964 rfl rfl, ⟨by decide +kernel, by decide +kernel, by decide +kernel⟩, by decide⟩
set_option maxRecDepth 100000 in
theorem inX0_setAt : Cond.instanceMethod mX0_setAt.1 ∈ GW := gw_of 962 rfl rfl
set_option maxRecDepth 100000 in
theorem seX0_setAt : Cond.selects mX0_setAt.1.cls mX0_setAt.1 mX0_setAt.1 ∈ GW := gw_of 963 rfl rfl
abbrev mX8_placed : MI := (yX8_placed, cX8_placed, 7, (some .int))
set_option maxRecDepth 100000 in
theorem sbX8_placed : SB mX8_placed 5 := ⟨gw_of 141 rfl rfl, gw_of 968 rfl rfl, ⟨by decide +kernel, by decide +kernel, by decide +kernel⟩, by decide⟩
set_option maxRecDepth 100000 in
theorem inX8_placed : Cond.instanceMethod mX8_placed.1 ∈ GW := gw_of 966 rfl rfl
set_option maxRecDepth 100000 in
theorem seX8_placed : Cond.selects mX8_placed.1.cls mX8_placed.1 mX8_placed.1 ∈ GW := gw_of 967 rfl rfl
abbrev mX8_isPlacing : MI := (yX8_isPlacing, cX8_isPlacing, 1, (some .boolean))
set_option maxRecDepth 100000 in
theorem sbX8_isPlacing : SB mX8_isPlacing 1 := ⟨gw_of 141 rfl rfl, gw_of 971 rfl rfl, ⟨by decide +kernel, by decide +kernel, by decide +kernel⟩, by decide⟩
set_option maxRecDepth 100000 in
theorem stX8_isPlacing : Cond.static mX8_isPlacing.1 ∈ GW := gw_of 970 rfl rfl
abbrev mX0_alive : MI := (yX0_alive, cX0_alive, 3, (some .int))
set_option maxRecDepth 100000 in
theorem sbX0_alive : SB mX0_alive 2 := ⟨gw_of 147 rfl rfl, gw_of 977 rfl rfl, ⟨by decide +kernel, by decide +kernel, by decide +kernel⟩, by decide⟩
set_option maxRecDepth 100000 in
theorem inX0_alive : Cond.instanceMethod mX0_alive.1 ∈ GW := gw_of 975 rfl rfl
set_option maxRecDepth 100000 in
theorem seX0_alive : Cond.selects mX0_alive.1.cls mX0_alive.1 mX0_alive.1 ∈ GW := gw_of 976 rfl rfl
abbrev mX8_life : MI := (yX8_life, cX8_life, 7, (some .int))
set_option maxRecDepth 100000 in
theorem sbX8_life : SB mX8_life 3 := ⟨gw_of 141 rfl rfl, gw_of 981 rfl rfl, ⟨by decide +kernel, by decide +kernel, by decide +kernel⟩, by decide⟩
set_option maxRecDepth 100000 in
theorem inX8_life : Cond.instanceMethod mX8_life.1 ∈ GW := gw_of 979 rfl rfl
set_option maxRecDepth 100000 in
theorem seX8_life : Cond.selects mX8_life.1.cls mX8_life.1 mX8_life.1 ∈ GW := gw_of 980 rfl rfl
abbrev mX8_places : MI := (yX8_places, cX8_places, 9, (some .int))
set_option maxRecDepth 100000 in
theorem sbX8_places : SB mX8_places 4 := ⟨gw_of 141 rfl rfl, gw_of 985 rfl rfl, ⟨by decide +kernel, by decide +kernel, by decide +kernel⟩, by decide⟩
set_option maxRecDepth 100000 in
theorem inX8_places : Cond.instanceMethod mX8_places.1 ∈ GW := gw_of 983 rfl rfl
set_option maxRecDepth 100000 in
theorem seX8_places : Cond.selects mX8_places.1.cls mX8_places.1 mX8_places.1 ∈ GW := gw_of 984 rfl rfl
abbrev mX8_name : MI := (yX8_name, cX8_name, 4, (some .int))
set_option maxRecDepth 100000 in
theorem sbX8_name : SB mX8_name 2 := ⟨gw_of 141 rfl rfl, gw_of 989 rfl rfl, ⟨by decide +kernel, by decide +kernel, by decide +kernel⟩, by decide⟩
set_option maxRecDepth 100000 in
theorem inX8_name : Cond.instanceMethod mX8_name.1 ∈ GW := gw_of 987 rfl rfl
set_option maxRecDepth 100000 in
theorem seX8_name : Cond.selects mX8_name.1.cls mX8_name.1 mX8_name.1 ∈ GW := gw_of 988 rfl rfl
abbrev mX8_run : MI := (yX8_run, cX8_run, 4, (some .int))
set_option maxRecDepth 100000 in
theorem sbX8_run : SB mX8_run 2 := ⟨gw_of 141 rfl rfl, gw_of 993 rfl rfl, ⟨by decide +kernel, by decide +kernel, by decide +kernel⟩, by decide⟩
set_option maxRecDepth 100000 in
theorem inX8_run : Cond.instanceMethod mX8_run.1 ∈ GW := gw_of 991 rfl rfl
set_option maxRecDepth 100000 in
theorem seX8_run : Cond.selects mX8_run.1.cls mX8_run.1 mX8_run.1 ∈ GW := gw_of 992 rfl rfl
abbrev mX3_go : MI := (yX3_go, cX3_go, 5, none)
set_option maxRecDepth 100000 in
theorem sbX3_go : SB mX3_go 2 := ⟨gw_of 148 rfl rfl, gw_of 997 rfl rfl, ⟨by decide +kernel, by decide +kernel, by decide +kernel⟩, by decide⟩
set_option maxRecDepth 100000 in
theorem inX3_go : Cond.instanceMethod mX3_go.1 ∈ GW := gw_of 995 rfl rfl
set_option maxRecDepth 100000 in
theorem seX3_go : Cond.selects mX3_go.1.cls mX3_go.1 mX3_go.1 ∈ GW := gw_of 996 rfl rfl
abbrev mX3_reset : MI := (yX3_reset, cX3_reset, 2, none)
set_option maxRecDepth 100000 in
theorem sbX3_reset : SB mX3_reset 0 := ⟨gw_of 148 rfl rfl, gw_of 1001 rfl rfl, ⟨by decide +kernel, by decide +kernel, by decide +kernel⟩, by decide⟩
set_option maxRecDepth 100000 in
theorem inX3_reset : Cond.instanceMethod mX3_reset.1 ∈ GW := gw_of 1000 rfl rfl
set_option maxRecDepth 100000 in
theorem seX3_reset : Cond.selects mX3_reset.1.cls mX3_reset.1 mX3_reset.1 ∈ GW := gw_of 35 rfl rfl
abbrev mX3_setAhead : MI := (yX3_setAhead, cX3_setAhead, 6, (some .boolean))
set_option maxRecDepth 100000 in
theorem sbX3_setAhead : SB mX3_setAhead 3 := ⟨gw_of 148 rfl rfl, gw_of 1009 rfl rfl, ⟨by decide +kernel, by decide +kernel, by decide +kernel⟩, by decide⟩
set_option maxRecDepth 100000 in
theorem inX3_setAhead : Cond.instanceMethod mX3_setAhead.1 ∈ GW := gw_of 1008 rfl rfl
set_option maxRecDepth 100000 in
theorem seX3_setAhead : Cond.selects mX3_setAhead.1.cls mX3_setAhead.1 mX3_setAhead.1 ∈ GW := gw_of 36 rfl rfl
abbrev mX3_work : MI := (yX3_work, cX3_work, 5, (some .boolean))
set_option maxRecDepth 100000 in
theorem sbX3_work : SB mX3_work 2 := ⟨gw_of 148 rfl rfl, gw_of 1014 rfl rfl, ⟨by decide +kernel, by decide +kernel, by decide +kernel⟩, by decide⟩
set_option maxRecDepth 100000 in
theorem inX3_work : Cond.instanceMethod mX3_work.1 ∈ GW := gw_of 1013 rfl rfl
set_option maxRecDepth 100000 in
theorem seX3_work : Cond.selects mX3_work.1.cls mX3_work.1 mX3_work.1 ∈ GW := gw_of 37 rfl rfl
abbrev mX3_valueOf : MI := (yX3_valueOf, cX3_valueOf, 3, (some .int))
set_option maxRecDepth 100000 in
theorem sbX3_valueOf : SB mX3_valueOf 1 := ⟨gw_of 148 rfl rfl, gw_of 1018 rfl rfl, ⟨by decide +kernel, by decide +kernel, by decide +kernel⟩, by decide⟩
set_option maxRecDepth 100000 in
theorem inX3_valueOf : Cond.instanceMethod mX3_valueOf.1 ∈ GW := gw_of 1017 rfl rfl
set_option maxRecDepth 100000 in
theorem seX3_valueOf : Cond.selects mX3_valueOf.1.cls mX3_valueOf.1 mX3_valueOf.1 ∈ GW := gw_of 38 rfl rfl
abbrev mX3_divide : MI := (yX3_divide, cX3_divide, 3, (some .boolean))
set_option maxRecDepth 100000 in
theorem sbX3_divide : SB mX3_divide 2 := ⟨gw_of 148 rfl rfl, gw_of 1024 rfl rfl, ⟨by decide +kernel, by decide +kernel, by decide +kernel⟩, by decide⟩
set_option maxRecDepth 100000 in
theorem inX3_divide : Cond.instanceMethod mX3_divide.1 ∈ GW := gw_of 1023 rfl rfl
set_option maxRecDepth 100000 in
theorem seX3_divide : Cond.selects mX3_divide.1.cls mX3_divide.1 mX3_divide.1 ∈ GW := gw_of 39 rfl rfl
abbrev mX3_readRow : MI := (yX3_readRow, cX3_readRow, 3, (some .boolean))
set_option maxRecDepth 100000 in
theorem sbX3_readRow : SB mX3_readRow 2 := ⟨gw_of 148 rfl rfl, gw_of 1028 rfl rfl, ⟨by decide +kernel, by decide +kernel, by decide +kernel⟩, by decide⟩
set_option maxRecDepth 100000 in
theorem inX3_readRow : Cond.instanceMethod mX3_readRow.1 ∈ GW := gw_of 1027 rfl rfl
set_option maxRecDepth 100000 in
theorem seX3_readRow : Cond.selects mX3_readRow.1.cls mX3_readRow.1 mX3_readRow.1 ∈ GW := gw_of 40 rfl rfl
abbrev mX3_hasPlace : MI := (yX3_hasPlace, cX3_hasPlace, 2, (some .boolean))
set_option maxRecDepth 100000 in
theorem sbX3_hasPlace : SB mX3_hasPlace 2 := ⟨gw_of 148 rfl rfl, gw_of 1031 rfl rfl, ⟨by decide +kernel, by decide +kernel, by decide +kernel⟩, by decide⟩
set_option maxRecDepth 100000 in
theorem stX3_hasPlace : Cond.static mX3_hasPlace.1 ∈ GW := gw_of 1030 rfl rfl
abbrev mX3_doNode : MI := (yX3_doNode, cX3_doNode, 6, (some .boolean))
set_option maxRecDepth 100000 in
theorem sbX3_doNode : SB mX3_doNode 3 := ⟨gw_of 148 rfl rfl, gw_of 1035 rfl rfl, ⟨by decide +kernel, by decide +kernel, by decide +kernel⟩, by decide⟩
set_option maxRecDepth 100000 in
theorem inX3_doNode : Cond.instanceMethod mX3_doNode.1 ∈ GW := gw_of 1034 rfl rfl
set_option maxRecDepth 100000 in
theorem seX3_doNode : Cond.selects mX3_doNode.1.cls mX3_doNode.1 mX3_doNode.1 ∈ GW := gw_of 41 rfl rfl
abbrev mX3_giveSum : MI := (yX3_giveSum, cX3_giveSum, 5, (some .boolean))
set_option maxRecDepth 100000 in
theorem sbX3_giveSum : SB mX3_giveSum 3 := ⟨gw_of 148 rfl rfl, gw_of 1039 rfl rfl, ⟨by decide +kernel, by decide +kernel, by decide +kernel⟩, by decide⟩
set_option maxRecDepth 100000 in
theorem inX3_giveSum : Cond.instanceMethod mX3_giveSum.1 ∈ GW := gw_of 1038 rfl rfl
set_option maxRecDepth 100000 in
theorem seX3_giveSum : Cond.selects mX3_giveSum.1.cls mX3_giveSum.1 mX3_giveSum.1 ∈ GW := gw_of 42 rfl rfl
abbrev mX3_giveName : MI := (yX3_giveName, cX3_giveName, 3, none)
set_option maxRecDepth 100000 in
theorem sbX3_giveName : SB mX3_giveName 2 := ⟨gw_of 148 rfl rfl, gw_of 1045 rfl rfl, ⟨by decide +kernel, by decide +kernel, by decide +kernel⟩, by decide⟩
set_option maxRecDepth 100000 in
theorem inX3_giveName : Cond.instanceMethod mX3_giveName.1 ∈ GW := gw_of 1044 rfl rfl
set_option maxRecDepth 100000 in
theorem seX3_giveName : Cond.selects mX3_giveName.1.cls mX3_giveName.1 mX3_giveName.1 ∈ GW := gw_of 43 rfl rfl
abbrev mX3_giveRow : MI := (yX3_giveRow, cX3_giveRow, 4, (some .boolean))
set_option maxRecDepth 100000 in
theorem sbX3_giveRow : SB mX3_giveRow 3 := ⟨gw_of 148 rfl rfl, gw_of 1049 rfl rfl, ⟨by decide +kernel, by decide +kernel, by decide +kernel⟩, by decide⟩
set_option maxRecDepth 100000 in
theorem inX3_giveRow : Cond.instanceMethod mX3_giveRow.1 ∈ GW := gw_of 1048 rfl rfl
set_option maxRecDepth 100000 in
theorem seX3_giveRow : Cond.selects mX3_giveRow.1.cls mX3_giveRow.1 mX3_giveRow.1 ∈ GW := gw_of 44 rfl rfl
abbrev mX3_tellValue : MI := (yX3_tellValue, cX3_tellValue, 2, none)
set_option maxRecDepth 100000 in
theorem sbX3_tellValue : SB mX3_tellValue 1 := ⟨gw_of 148 rfl rfl, gw_of 1053 rfl rfl, ⟨by decide +kernel, by decide +kernel, by decide +kernel⟩, by decide⟩
set_option maxRecDepth 100000 in
theorem inX3_tellValue : Cond.instanceMethod mX3_tellValue.1 ∈ GW := gw_of 1052 rfl rfl
set_option maxRecDepth 100000 in
theorem seX3_tellValue : Cond.selects mX3_tellValue.1.cls mX3_tellValue.1 mX3_tellValue.1 ∈ GW := gw_of 45 rfl rfl
abbrev mX3_nextOf : MI := (yX3_nextOf, cX3_nextOf, 4, (some .int))
set_option maxRecDepth 100000 in
theorem sbX3_nextOf : SB mX3_nextOf 2 := ⟨gw_of 148 rfl rfl, gw_of 1057 rfl rfl, ⟨by decide +kernel, by decide +kernel, by decide +kernel⟩, by decide⟩
set_option maxRecDepth 100000 in
theorem inX3_nextOf : Cond.instanceMethod mX3_nextOf.1 ∈ GW := gw_of 1056 rfl rfl
set_option maxRecDepth 100000 in
theorem seX3_nextOf : Cond.selects mX3_nextOf.1.cls mX3_nextOf.1 mX3_nextOf.1 ∈ GW := gw_of 46 rfl rfl
abbrev mX8_ran : MI := (yX8_ran, cX8_ran, 2, (some .int))
set_option maxRecDepth 100000 in
theorem sbX8_ran : SB mX8_ran 1 := ⟨gw_of 141 rfl rfl, gw_of 1061 rfl rfl, ⟨by decide +kernel, by decide +kernel, by decide +kernel⟩, by decide⟩
set_option maxRecDepth 100000 in
theorem inX8_ran : Cond.instanceMethod mX8_ran.1 ∈ GW := gw_of 1059 rfl rfl
set_option maxRecDepth 100000 in
theorem seX8_ran : Cond.selects mX8_ran.1.cls mX8_ran.1 mX8_ran.1 ∈ GW := gw_of 1060 rfl rfl
abbrev mX8_told : MI := (yX8_told, cX8_told, 2, (some .int))
set_option maxRecDepth 100000 in
theorem sbX8_told : SB mX8_told 1 := ⟨gw_of 141 rfl rfl, gw_of 1065 rfl rfl, ⟨by decide +kernel, by decide +kernel, by decide +kernel⟩, by decide⟩
set_option maxRecDepth 100000 in
theorem inX8_told : Cond.instanceMethod mX8_told.1 ∈ GW := gw_of 1063 rfl rfl
set_option maxRecDepth 100000 in
theorem seX8_told : Cond.selects mX8_told.1.cls mX8_told.1 mX8_told.1 ∈ GW := gw_of 1064 rfl rfl
abbrev mX8_value : MI := (yX8_value, cX8_value, 2, (some .int))
set_option maxRecDepth 100000 in
theorem sbX8_value : SB mX8_value 1 := ⟨gw_of 141 rfl rfl, gw_of 1069 rfl rfl, ⟨by decide +kernel, by decide +kernel, by decide +kernel⟩, by decide⟩
set_option maxRecDepth 100000 in
theorem inX8_value : Cond.instanceMethod mX8_value.1 ∈ GW := gw_of 1067 rfl rfl
set_option maxRecDepth 100000 in
theorem seX8_value : Cond.selects mX8_value.1.cls mX8_value.1 mX8_value.1 ∈ GW := gw_of 1068 rfl rfl
abbrev mX8_row : MI := (yX8_row, cX8_row, 3, (some .int))
set_option maxRecDepth 100000 in
theorem sbX8_row : SB mX8_row 2 := ⟨gw_of 141 rfl rfl, gw_of 1073 rfl rfl, ⟨by decide +kernel, by decide +kernel, by decide +kernel⟩, by decide⟩
set_option maxRecDepth 100000 in
theorem inX8_row : Cond.instanceMethod mX8_row.1 ∈ GW := gw_of 1071 rfl rfl
set_option maxRecDepth 100000 in
theorem seX8_row : Cond.selects mX8_row.1.cls mX8_row.1 mX8_row.1 ∈ GW := gw_of 1072 rfl rfl
abbrev mX8_worked : MI := (yX8_worked, cX8_worked, 2, (some .int))
set_option maxRecDepth 100000 in
theorem sbX8_worked : SB mX8_worked 1 := ⟨gw_of 141 rfl rfl, gw_of 1077 rfl rfl, ⟨by decide +kernel, by decide +kernel, by decide +kernel⟩, by decide⟩
set_option maxRecDepth 100000 in
theorem inX8_worked : Cond.instanceMethod mX8_worked.1 ∈ GW := gw_of 1075 rfl rfl
set_option maxRecDepth 100000 in
theorem seX8_worked : Cond.selects mX8_worked.1.cls mX8_worked.1 mX8_worked.1 ∈ GW := gw_of 1076 rfl rfl
abbrev mX8_step : MI := (yX8_step, cX8_step, 4, (some .int))
set_option maxRecDepth 100000 in
theorem sbX8_step : SB mX8_step 2 := ⟨gw_of 141 rfl rfl, gw_of 1081 rfl rfl, ⟨by decide +kernel, by decide +kernel, by decide +kernel⟩, by decide⟩
set_option maxRecDepth 100000 in
theorem inX8_step : Cond.instanceMethod mX8_step.1 ∈ GW := gw_of 1079 rfl rfl
set_option maxRecDepth 100000 in
theorem seX8_step : Cond.selects mX8_step.1.cls mX8_step.1 mX8_step.1 ∈ GW := gw_of 1080 rfl rfl
abbrev mX2_wayCanGoTo : MI := (yX2_wayCanGoTo, cX2_wayCanGoTo, 3, (some .boolean))
set_option maxRecDepth 100000 in
theorem sbX2_wayCanGoTo : SB mX2_wayCanGoTo 1 := ⟨gw_of 145 rfl rfl, gw_of 1085 rfl rfl, ⟨by decide +kernel, by decide +kernel, by decide +kernel⟩, by decide⟩
set_option maxRecDepth 100000 in
theorem inX2_wayCanGoTo : Cond.instanceMethod mX2_wayCanGoTo.1 ∈ GW := gw_of 1083 rfl rfl
set_option maxRecDepth 100000 in
theorem seX2_wayCanGoTo : Cond.selects mX2_wayCanGoTo.1.cls mX2_wayCanGoTo.1 mX2_wayCanGoTo.1 ∈ GW := gw_of 1084 rfl rfl
abbrev mX8_home : MI := (yX8_home, cX8_home, 4, (some .int))
set_option maxRecDepth 100000 in
theorem sbX8_home : SB mX8_home 1 := ⟨gw_of 141 rfl rfl, gw_of 1089 rfl rfl, ⟨by decide +kernel, by decide +kernel, by decide +kernel⟩, by decide⟩
set_option maxRecDepth 100000 in
theorem inX8_home : Cond.instanceMethod mX8_home.1 ∈ GW := gw_of 1087 rfl rfl
set_option maxRecDepth 100000 in
theorem seX8_home : Cond.selects mX8_home.1.cls mX8_home.1 mX8_home.1 ∈ GW := gw_of 1088 rfl rfl
abbrev mX8_works : MI := (yX8_works, cX8_works, 5, (some .int))
set_option maxRecDepth 100000 in
theorem sbX8_works : SB mX8_works 3 := ⟨gw_of 141 rfl rfl, gw_of 1093 rfl rfl, ⟨by decide +kernel, by decide +kernel, by decide +kernel⟩, by decide⟩
set_option maxRecDepth 100000 in
theorem inX8_works : Cond.instanceMethod mX8_works.1 ∈ GW := gw_of 1091 rfl rfl
set_option maxRecDepth 100000 in
theorem seX8_works : Cond.selects mX8_works.1.cls mX8_works.1 mX8_works.1 ∈ GW := gw_of 1092 rfl rfl
abbrev mX2_countOnWay : MI := (yX2_countOnWay, cX2_countOnWay, 7, (some .int))
set_option maxRecDepth 100000 in
theorem sbX2_countOnWay : SB mX2_countOnWay 2 := ⟨gw_of 145 rfl rfl, gw_of 1097 rfl rfl, ⟨by decide +kernel, by decide +kernel, by decide +kernel⟩, by decide⟩
set_option maxRecDepth 100000 in
theorem inX2_countOnWay : Cond.instanceMethod mX2_countOnWay.1 ∈ GW := gw_of 1095 rfl rfl
set_option maxRecDepth 100000 in
theorem seX2_countOnWay : Cond.selects mX2_countOnWay.1.cls mX2_countOnWay.1 mX2_countOnWay.1 ∈ GW := gw_of 1096 rfl rfl
abbrev mX0_countWorked : MI := (yX0_countWorked, cX0_countWorked, 6, (some .int))
set_option maxRecDepth 100000 in
theorem sbX0_countWorked : SB mX0_countWorked 3 := ⟨gw_of 147 rfl rfl, gw_of 1101 rfl rfl, ⟨by decide +kernel, by decide +kernel, by decide +kernel⟩, by decide⟩
set_option maxRecDepth 100000 in
theorem inX0_countWorked : Cond.instanceMethod mX0_countWorked.1 ∈ GW := gw_of 1099 rfl rfl
set_option maxRecDepth 100000 in
theorem seX0_countWorked : Cond.selects mX0_countWorked.1.cls mX0_countWorked.1 mX0_countWorked.1 ∈ GW := gw_of 1100 rfl rfl
abbrev mX2_leadsTowards : MI := (yX2_leadsTowards, cX2_leadsTowards, 4, (some .int))
set_option maxRecDepth 100000 in
theorem sbX2_leadsTowards : SB mX2_leadsTowards 2 := ⟨gw_of 145 rfl rfl, gw_of 1105 rfl rfl, ⟨by decide +kernel, by decide +kernel, by decide +kernel⟩, by decide⟩
set_option maxRecDepth 100000 in
theorem inX2_leadsTowards : Cond.instanceMethod mX2_leadsTowards.1 ∈ GW := gw_of 1104 rfl rfl
set_option maxRecDepth 100000 in
theorem seX2_leadsTowards : Cond.selects mX2_leadsTowards.1.cls mX2_leadsTowards.1 mX2_leadsTowards.1 ∈ GW := gw_of 47 rfl rfl
abbrev mX8_write : MI := (yX8_write, cX8_write, 4, (some .int))
set_option maxRecDepth 100000 in
theorem sbX8_write : SB mX8_write 2 := ⟨gw_of 141 rfl rfl, gw_of 1109 rfl rfl, ⟨by decide +kernel, by decide +kernel, by decide +kernel⟩, by decide⟩
set_option maxRecDepth 100000 in
theorem inX8_write : Cond.instanceMethod mX8_write.1 ∈ GW := gw_of 1107 rfl rfl
set_option maxRecDepth 100000 in
theorem seX8_write : Cond.selects mX8_write.1.cls mX8_write.1 mX8_write.1 ∈ GW := gw_of 1108 rfl rfl
abbrev mX7_writeRoutine : MI := (yX7_writeRoutine, cX7_writeRoutine, 5, none)
set_option maxRecDepth 100000 in
theorem sbX7_writeRoutine : SB mX7_writeRoutine 2 := ⟨gw_of 149 rfl rfl, gw_of 1113 rfl rfl, ⟨by decide +kernel, by decide +kernel, by decide +kernel⟩, by decide⟩
set_option maxRecDepth 100000 in
theorem inX7_writeRoutine : Cond.instanceMethod mX7_writeRoutine.1 ∈ GW := gw_of 1111 rfl rfl
set_option maxRecDepth 100000 in
theorem seX7_writeRoutine : Cond.selects mX7_writeRoutine.1.cls mX7_writeRoutine.1 mX7_writeRoutine.1 ∈ GW := gw_of 1112 rfl rfl
abbrev mX7_numberOwnBlocks : MI := (yX7_numberOwnBlocks, cX7_numberOwnBlocks, 5, none)
set_option maxRecDepth 100000 in
theorem sbX7_numberOwnBlocks : SB mX7_numberOwnBlocks 2 := ⟨gw_of 149 rfl rfl, gw_of 1117 rfl rfl, ⟨by decide +kernel, by decide +kernel, by decide +kernel⟩, by decide⟩
set_option maxRecDepth 100000 in
theorem inX7_numberOwnBlocks : Cond.instanceMethod mX7_numberOwnBlocks.1 ∈ GW := gw_of 1116 rfl rfl
set_option maxRecDepth 100000 in
theorem seX7_numberOwnBlocks : Cond.selects mX7_numberOwnBlocks.1.cls mX7_numberOwnBlocks.1 mX7_numberOwnBlocks.1 ∈ GW := gw_of 48 rfl rfl
abbrev mX7_putHead : MI := (yX7_putHead, cX7_putHead, 2, none)
set_option maxRecDepth 100000 in
theorem sbX7_putHead : SB mX7_putHead 1 := ⟨gw_of 149 rfl rfl, gw_of 1122 rfl rfl, ⟨by decide +kernel, by decide +kernel, by decide +kernel⟩, by decide⟩
set_option maxRecDepth 100000 in
theorem inX7_putHead : Cond.instanceMethod mX7_putHead.1 ∈ GW := gw_of 1121 rfl rfl
set_option maxRecDepth 100000 in
theorem seX7_putHead : Cond.selects mX7_putHead.1.cls mX7_putHead.1 mX7_putHead.1 ∈ GW := gw_of 49 rfl rfl
abbrev mX7_putNumbered : MI := (yX7_putNumbered, cX7_putNumbered, 3, none)
set_option maxRecDepth 100000 in
theorem sbX7_putNumbered : SB mX7_putNumbered 2 := ⟨gw_of 149 rfl rfl, gw_of 1126 rfl rfl, ⟨by decide +kernel, by decide +kernel, by decide +kernel⟩, by decide⟩
set_option maxRecDepth 100000 in
theorem inX7_putNumbered : Cond.instanceMethod mX7_putNumbered.1 ∈ GW := gw_of 1125 rfl rfl
set_option maxRecDepth 100000 in
theorem seX7_putNumbered : Cond.selects mX7_putNumbered.1.cls mX7_putNumbered.1 mX7_putNumbered.1 ∈ GW := gw_of 50 rfl rfl
abbrev mX7_put : MI := (yX7_put, cX7_put, 2, none)
set_option maxRecDepth 100000 in
theorem sbX7_put : SB mX7_put 1 := ⟨gw_of 149 rfl rfl, gw_of 1130 rfl rfl, ⟨by decide +kernel, by decide +kernel, by decide +kernel⟩, by decide⟩
set_option maxRecDepth 100000 in
theorem inX7_put : Cond.instanceMethod mX7_put.1 ∈ GW := gw_of 1129 rfl rfl
set_option maxRecDepth 100000 in
theorem seX7_put : Cond.selects mX7_put.1.cls mX7_put.1 mX7_put.1 ∈ GW := gw_of 51 rfl rfl
abbrev mX7_putDigits : MI := (yX7_putDigits, cX7_putDigits, 4, none)
set_option maxRecDepth 100000 in
theorem sbX7_putDigits : SB mX7_putDigits 1 := ⟨gw_of 149 rfl rfl, gw_of 1134 rfl rfl, ⟨by decide +kernel, by decide +kernel, by decide +kernel⟩, by decide⟩
set_option maxRecDepth 100000 in
theorem inX7_putDigits : Cond.instanceMethod mX7_putDigits.1 ∈ GW := gw_of 1133 rfl rfl
set_option maxRecDepth 100000 in
theorem seX7_putDigits : Cond.selects mX7_putDigits.1.cls mX7_putDigits.1 mX7_putDigits.1 ∈ GW := gw_of 52 rfl rfl
abbrev mX7_putText : MI := (yX7_putText, cX7_putText, 3, none)
set_option maxRecDepth 100000 in
theorem sbX7_putText : SB mX7_putText 1 := ⟨gw_of 149 rfl rfl, gw_of 1139 rfl rfl, ⟨by decide +kernel, by decide +kernel, by decide +kernel⟩, by decide⟩
set_option maxRecDepth 100000 in
theorem inX7_putText : Cond.instanceMethod mX7_putText.1 ∈ GW := gw_of 1138 rfl rfl
set_option maxRecDepth 100000 in
theorem seX7_putText : Cond.selects mX7_putText.1.cls mX7_putText.1 mX7_putText.1 ∈ GW := gw_of 53 rfl rfl
abbrev mX7_putSetAhead : MI := (yX7_putSetAhead, cX7_putSetAhead, 6, none)
set_option maxRecDepth 100000 in
theorem sbX7_putSetAhead : SB mX7_putSetAhead 3 := ⟨gw_of 149 rfl rfl, gw_of 1145 rfl rfl, ⟨by decide +kernel, by decide +kernel, by decide +kernel⟩, by decide⟩
set_option maxRecDepth 100000 in
theorem inX7_putSetAhead : Cond.instanceMethod mX7_putSetAhead.1 ∈ GW := gw_of 1144 rfl rfl
set_option maxRecDepth 100000 in
theorem seX7_putSetAhead : Cond.selects mX7_putSetAhead.1.cls mX7_putSetAhead.1 mX7_putSetAhead.1 ∈ GW := gw_of 54 rfl rfl
abbrev mX7_putSum : MI := (yX7_putSum, cX7_putSum, 3, none)
set_option maxRecDepth 100000 in
theorem sbX7_putSum : SB mX7_putSum 2 := ⟨gw_of 149 rfl rfl, gw_of 1151 rfl rfl, ⟨by decide +kernel, by decide +kernel, by decide +kernel⟩, by decide⟩
set_option maxRecDepth 100000 in
theorem inX7_putSum : Cond.instanceMethod mX7_putSum.1 ∈ GW := gw_of 1150 rfl rfl
set_option maxRecDepth 100000 in
theorem seX7_putSum : Cond.selects mX7_putSum.1.cls mX7_putSum.1 mX7_putSum.1 ∈ GW := gw_of 55 rfl rfl
abbrev mX7_putPlace : MI := (yX7_putPlace, cX7_putPlace, 3, none)
set_option maxRecDepth 100000 in
theorem sbX7_putPlace : SB mX7_putPlace 2 := ⟨gw_of 149 rfl rfl, gw_of 1156 rfl rfl, ⟨by decide +kernel, by decide +kernel, by decide +kernel⟩, by decide⟩
set_option maxRecDepth 100000 in
theorem inX7_putPlace : Cond.instanceMethod mX7_putPlace.1 ∈ GW := gw_of 1155 rfl rfl
set_option maxRecDepth 100000 in
theorem seX7_putPlace : Cond.selects mX7_putPlace.1.cls mX7_putPlace.1 mX7_putPlace.1 ∈ GW := gw_of 56 rfl rfl
abbrev mX7_putOperand : MI := (yX7_putOperand, cX7_putOperand, 3, none)
set_option maxRecDepth 100000 in
theorem sbX7_putOperand : SB mX7_putOperand 1 := ⟨gw_of 149 rfl rfl, gw_of 1161 rfl rfl, ⟨by decide +kernel, by decide +kernel, by decide +kernel⟩, by decide⟩
set_option maxRecDepth 100000 in
theorem inX7_putOperand : Cond.instanceMethod mX7_putOperand.1 ∈ GW := gw_of 1160 rfl rfl
set_option maxRecDepth 100000 in
theorem seX7_putOperand : Cond.selects mX7_putOperand.1.cls mX7_putOperand.1 mX7_putOperand.1 ∈ GW := gw_of 57 rfl rfl
abbrev mX7_putNode : MI := (yX7_putNode, cX7_putNode, 4, none)
set_option maxRecDepth 100000 in
theorem sbX7_putNode : SB mX7_putNode 3 := ⟨gw_of 149 rfl rfl, gw_of 1170 rfl rfl, ⟨by decide +kernel, by decide +kernel, by decide +kernel⟩, by decide⟩
set_option maxRecDepth 100000 in
theorem inX7_putNode : Cond.instanceMethod mX7_putNode.1 ∈ GW := gw_of 1169 rfl rfl
set_option maxRecDepth 100000 in
theorem seX7_putNode : Cond.selects mX7_putNode.1.cls mX7_putNode.1 mX7_putNode.1 ∈ GW := gw_of 58 rfl rfl
abbrev mX7_putGive : MI := (yX7_putGive, cX7_putGive, 3, none)
set_option maxRecDepth 100000 in
theorem sbX7_putGive : SB mX7_putGive 2 := ⟨gw_of 149 rfl rfl, gw_of 1174 rfl rfl, ⟨by decide +kernel, by decide +kernel, by decide +kernel⟩, by decide⟩
set_option maxRecDepth 100000 in
theorem inX7_putGive : Cond.instanceMethod mX7_putGive.1 ∈ GW := gw_of 1173 rfl rfl
set_option maxRecDepth 100000 in
theorem seX7_putGive : Cond.selects mX7_putGive.1.cls mX7_putGive.1 mX7_putGive.1 ∈ GW := gw_of 59 rfl rfl
abbrev mX7_putIf : MI := (yX7_putIf, cX7_putIf, 4, none)
set_option maxRecDepth 100000 in
theorem sbX7_putIf : SB mX7_putIf 2 := ⟨gw_of 149 rfl rfl, gw_of 1180 rfl rfl, ⟨by decide +kernel, by decide +kernel, by decide +kernel⟩, by decide⟩
set_option maxRecDepth 100000 in
theorem inX7_putIf : Cond.instanceMethod mX7_putIf.1 ∈ GW := gw_of 1179 rfl rfl
set_option maxRecDepth 100000 in
theorem seX7_putIf : Cond.selects mX7_putIf.1.cls mX7_putIf.1 mX7_putIf.1 ∈ GW := gw_of 60 rfl rfl
abbrev mX7_wayOf : MI := (yX7_wayOf, cX7_wayOf, 5, (some .int))
set_option maxRecDepth 100000 in
theorem sbX7_wayOf : SB mX7_wayOf 3 := ⟨gw_of 149 rfl rfl, gw_of 1186 rfl rfl, ⟨by decide +kernel, by decide +kernel, by decide +kernel⟩, by decide⟩
set_option maxRecDepth 100000 in
theorem inX7_wayOf : Cond.instanceMethod mX7_wayOf.1 ∈ GW := gw_of 1185 rfl rfl
set_option maxRecDepth 100000 in
theorem seX7_wayOf : Cond.selects mX7_wayOf.1.cls mX7_wayOf.1 mX7_wayOf.1 ∈ GW := gw_of 61 rfl rfl
abbrev mX5_hold : MI := (yX5_hold, cX5_hold, 3, none)
set_option maxRecDepth 100000 in
theorem sbX5_hold : SB mX5_hold 2 := ⟨gw_of 142 rfl rfl, gw_of 1192 rfl rfl, ⟨by decide +kernel, by decide +kernel, by decide +kernel⟩, by decide⟩
set_option maxRecDepth 100000 in
theorem inX5_hold : Cond.instanceMethod mX5_hold.1 ∈ GW := gw_of 1190 rfl rfl
set_option maxRecDepth 100000 in
theorem seX5_hold : Cond.selects mX5_hold.1.cls mX5_hold.1 mX5_hold.1 ∈ GW := gw_of 1191 rfl rfl
abbrev mX9_init : MI := (yX9_init, cX9_init, 1, none)
set_option maxRecDepth 100000 in
theorem sbX9_init : SB mX9_init 0 := ⟨gw_of 150 rfl rfl, gw_of 1199 rfl rfl, ⟨by decide +kernel, by decide +kernel, by decide +kernel⟩, by decide⟩
set_option maxRecDepth 100000 in
theorem inX9_init : Cond.instanceMethod mX9_init.1 ∈ GW := gw_of 1198 rfl rfl
abbrev mX9_feed : MI := (yX9_feed, cX9_feed, 5, (some .int))
set_option maxRecDepth 100000 in
theorem sbX9_feed : SB mX9_feed 2 := ⟨gw_of 150 rfl rfl, gw_of 1394 rfl rfl, ⟨by decide +kernel, by decide +kernel, by decide +kernel⟩, by decide⟩
set_option maxRecDepth 100000 in
theorem inX9_feed : Cond.instanceMethod mX9_feed.1 ∈ GW := gw_of 1392 rfl rfl
set_option maxRecDepth 100000 in
theorem seX9_feed : Cond.selects mX9_feed.1.cls mX9_feed.1 mX9_feed.1 ∈ GW := gw_of 1393 rfl rfl
abbrev mX9_cut : MI := (yX9_cut, cX9_cut, 2, (some .int))
set_option maxRecDepth 100000 in
theorem sbX9_cut : SB mX9_cut 1 := ⟨gw_of 150 rfl rfl, gw_of 1399 rfl rfl, ⟨by decide +kernel, by decide +kernel, by decide +kernel⟩, by decide⟩
set_option maxRecDepth 100000 in
theorem inX9_cut : Cond.instanceMethod mX9_cut.1 ∈ GW := gw_of 1397 rfl rfl
set_option maxRecDepth 100000 in
theorem seX9_cut : Cond.selects mX9_cut.1.cls mX9_cut.1 mX9_cut.1 ∈ GW := gw_of 1398 rfl rfl
abbrev mX9_tape : MI := (yX9_tape, cX9_tape, 2, (some .int))
set_option maxRecDepth 100000 in
theorem sbX9_tape : SB mX9_tape 1 := ⟨gw_of 150 rfl rfl, gw_of 1403 rfl rfl, ⟨by decide +kernel, by decide +kernel, by decide +kernel⟩, by decide⟩
set_option maxRecDepth 100000 in
theorem inX9_tape : Cond.instanceMethod mX9_tape.1 ∈ GW := gw_of 1401 rfl rfl
set_option maxRecDepth 100000 in
theorem seX9_tape : Cond.selects mX9_tape.1.cls mX9_tape.1 mX9_tape.1 ∈ GW := gw_of 1402 rfl rfl
abbrev mX9_parse : MI := (yX9_parse, cX9_parse, 3, (some .int))
set_option maxRecDepth 100000 in
theorem sbX9_parse : SB mX9_parse 1 := ⟨gw_of 150 rfl rfl, gw_of 1407 rfl rfl, ⟨by decide +kernel, by decide +kernel, by decide +kernel⟩, by decide⟩
set_option maxRecDepth 100000 in
theorem inX9_parse : Cond.instanceMethod mX9_parse.1 ∈ GW := gw_of 1405 rfl rfl
set_option maxRecDepth 100000 in
theorem seX9_parse : Cond.selects mX9_parse.1.cls mX9_parse.1 mX9_parse.1 ∈ GW := gw_of 1406 rfl rfl
abbrev mX9_next : MI := (yX9_next, cX9_next, 3, none)
set_option maxRecDepth 100000 in
theorem sbX9_next : SB mX9_next 0 := ⟨gw_of 150 rfl rfl, gw_of 1411 rfl rfl, ⟨by decide +kernel, by decide +kernel, by decide +kernel⟩, by decide⟩
set_option maxRecDepth 100000 in
theorem inX9_next : Cond.instanceMethod mX9_next.1 ∈ GW := gw_of 1410 rfl rfl
set_option maxRecDepth 100000 in
theorem seX9_next : Cond.selects mX9_next.1.cls mX9_next.1 mX9_next.1 ∈ GW := gw_of 62 rfl rfl
abbrev mX9_at : MI := (yX9_at, cX9_at, 2, (some .int))
set_option maxRecDepth 100000 in
theorem sbX9_at : SB mX9_at 1 := ⟨gw_of 150 rfl rfl, gw_of 1415 rfl rfl, ⟨by decide +kernel, by decide +kernel, by decide +kernel⟩, by decide⟩
set_option maxRecDepth 100000 in
theorem inX9_at : Cond.instanceMethod mX9_at.1 ∈ GW := gw_of 1414 rfl rfl
set_option maxRecDepth 100000 in
theorem seX9_at : Cond.selects mX9_at.1.cls mX9_at.1 mX9_at.1 ∈ GW := gw_of 63 rfl rfl
abbrev mX9_isLetter : MI := (yX9_isLetter, cX9_isLetter, 2, (some .boolean))
set_option maxRecDepth 100000 in
theorem sbX9_isLetter : SB mX9_isLetter 1 := ⟨gw_of 150 rfl rfl, gw_of 1419 rfl rfl, ⟨by decide +kernel, by decide +kernel, by decide +kernel⟩, by decide⟩
set_option maxRecDepth 100000 in
theorem inX9_isLetter : Cond.instanceMethod mX9_isLetter.1 ∈ GW := gw_of 1418 rfl rfl
set_option maxRecDepth 100000 in
theorem seX9_isLetter : Cond.selects mX9_isLetter.1.cls mX9_isLetter.1 mX9_isLetter.1 ∈ GW := gw_of 64 rfl rfl
abbrev mX9_isDigit : MI := (yX9_isDigit, cX9_isDigit, 2, (some .boolean))
set_option maxRecDepth 100000 in
theorem sbX9_isDigit : SB mX9_isDigit 1 := ⟨gw_of 150 rfl rfl, gw_of 1423 rfl rfl, ⟨by decide +kernel, by decide +kernel, by decide +kernel⟩, by decide⟩
set_option maxRecDepth 100000 in
theorem inX9_isDigit : Cond.instanceMethod mX9_isDigit.1 ∈ GW := gw_of 1422 rfl rfl
set_option maxRecDepth 100000 in
theorem seX9_isDigit : Cond.selects mX9_isDigit.1.cls mX9_isDigit.1 mX9_isDigit.1 ∈ GW := gw_of 65 rfl rfl
abbrev mX9_word : MI := (yX9_word, cX9_word, 7, none)
set_option maxRecDepth 100000 in
theorem sbX9_word : SB mX9_word 0 := ⟨gw_of 150 rfl rfl, gw_of 1427 rfl rfl, ⟨by decide +kernel, by decide +kernel, by decide +kernel⟩, by decide⟩
set_option maxRecDepth 100000 in
theorem inX9_word : Cond.instanceMethod mX9_word.1 ∈ GW := gw_of 1426 rfl rfl
set_option maxRecDepth 100000 in
theorem seX9_word : Cond.selects mX9_word.1.cls mX9_word.1 mX9_word.1 ∈ GW := gw_of 66 rfl rfl
abbrev mX9_number : MI := (yX9_number, cX9_number, 3, none)
set_option maxRecDepth 100000 in
theorem sbX9_number : SB mX9_number 0 := ⟨gw_of 150 rfl rfl, gw_of 1433 rfl rfl, ⟨by decide +kernel, by decide +kernel, by decide +kernel⟩, by decide⟩
set_option maxRecDepth 100000 in
theorem inX9_number : Cond.instanceMethod mX9_number.1 ∈ GW := gw_of 1432 rfl rfl
set_option maxRecDepth 100000 in
theorem seX9_number : Cond.selects mX9_number.1.cls mX9_number.1 mX9_number.1 ∈ GW := gw_of 67 rfl rfl
abbrev mX9_must : MI := (yX9_must, cX9_must, 3, (some .boolean))
set_option maxRecDepth 100000 in
theorem sbX9_must : SB mX9_must 2 := ⟨gw_of 150 rfl rfl, gw_of 1437 rfl rfl, ⟨by decide +kernel, by decide +kernel, by decide +kernel⟩, by decide⟩
set_option maxRecDepth 100000 in
theorem inX9_must : Cond.instanceMethod mX9_must.1 ∈ GW := gw_of 1436 rfl rfl
set_option maxRecDepth 100000 in
theorem seX9_must : Cond.selects mX9_must.1.cls mX9_must.1 mX9_must.1 ∈ GW := gw_of 68 rfl rfl
abbrev mX9_readBlock : MI := (yX9_readBlock, cX9_readBlock, 3, none)
set_option maxRecDepth 100000 in
theorem sbX9_readBlock : SB mX9_readBlock 0 := ⟨gw_of 150 rfl rfl, gw_of 1441 rfl rfl, ⟨by decide +kernel, by decide +kernel, by decide +kernel⟩, by decide⟩
set_option maxRecDepth 100000 in
theorem inX9_readBlock : Cond.instanceMethod mX9_readBlock.1 ∈ GW := gw_of 1440 rfl rfl
set_option maxRecDepth 100000 in
theorem seX9_readBlock : Cond.selects mX9_readBlock.1.cls mX9_readBlock.1 mX9_readBlock.1 ∈ GW := gw_of 69 rfl rfl
abbrev mX9_numbered : MI := (yX9_numbered, cX9_numbered, 3, (some .int))
set_option maxRecDepth 100000 in
theorem sbX9_numbered : SB mX9_numbered 2 := ⟨gw_of 150 rfl rfl, gw_of 1445 rfl rfl, ⟨by decide +kernel, by decide +kernel, by decide +kernel⟩, by decide⟩
set_option maxRecDepth 100000 in
theorem inX9_numbered : Cond.instanceMethod mX9_numbered.1 ∈ GW := gw_of 1444 rfl rfl
set_option maxRecDepth 100000 in
theorem seX9_numbered : Cond.selects mX9_numbered.1.cls mX9_numbered.1 mX9_numbered.1 ∈ GW := gw_of 70 rfl rfl
abbrev mX9_take : MI := (yX9_take, cX9_take, 2, none)
set_option maxRecDepth 100000 in
theorem sbX9_take : SB mX9_take 1 := ⟨gw_of 150 rfl rfl, gw_of 1449 rfl rfl, ⟨by decide +kernel, by decide +kernel, by decide +kernel⟩, by decide⟩
set_option maxRecDepth 100000 in
theorem inX9_take : Cond.instanceMethod mX9_take.1 ∈ GW := gw_of 1448 rfl rfl
set_option maxRecDepth 100000 in
theorem seX9_take : Cond.selects mX9_take.1.cls mX9_take.1 mX9_take.1 ∈ GW := gw_of 71 rfl rfl
abbrev mX9_isSign : MI := (yX9_isSign, cX9_isSign, 2, (some .boolean))
set_option maxRecDepth 100000 in
theorem sbX9_isSign : SB mX9_isSign 1 := ⟨gw_of 150 rfl rfl, gw_of 1453 rfl rfl, ⟨by decide +kernel, by decide +kernel, by decide +kernel⟩, by decide⟩
set_option maxRecDepth 100000 in
theorem inX9_isSign : Cond.instanceMethod mX9_isSign.1 ∈ GW := gw_of 1452 rfl rfl
set_option maxRecDepth 100000 in
theorem seX9_isSign : Cond.selects mX9_isSign.1.cls mX9_isSign.1 mX9_isSign.1 ∈ GW := gw_of 72 rfl rfl
abbrev mX9_statement : MI := (yX9_statement, cX9_statement, 5, (some .boolean))
set_option maxRecDepth 100000 in
theorem sbX9_statement : SB mX9_statement 0 := ⟨gw_of 150 rfl rfl, gw_of 1457 rfl rfl, ⟨by decide +kernel, by decide +kernel, by decide +kernel⟩, by decide⟩
set_option maxRecDepth 100000 in
theorem inX9_statement : Cond.instanceMethod mX9_statement.1 ∈ GW := gw_of 1456 rfl rfl
