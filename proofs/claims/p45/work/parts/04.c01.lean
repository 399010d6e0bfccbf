set_option maxRecDepth 100000 in
theorem w_534 : (.code yX8_person cX8_person 3 (some .int) : Cond) ∈ ALLW := List.mem_append_right _ (List.mem_append_right _ (List.mem_append_right _ (List.mem_append_right _ (List.mem_append_right _ (List.mem_append_left _ (List.mem_of_getElem? (i := 34) rfl))))))
set_option maxRecDepth 100000 in
theorem w_535 : (.fieldLink RX8 132 "OldestFirst$Town" "hours" "[I" : Cond) ∈ ALLW := List.mem_append_right _ (List.mem_append_right _ (List.mem_append_right _ (List.mem_append_right _ (List.mem_append_right _ (List.mem_append_left _ (List.mem_of_getElem? (i := 35) rfl))))))
set_option maxRecDepth 100000 in
theorem w_536 : (.fieldLink RX8 135 "OldestFirst$Town" "kind" "[I" : Cond) ∈ ALLW := List.mem_append_right _ (List.mem_append_right _ (List.mem_append_right _ (List.mem_append_right _ (List.mem_append_right _ (List.mem_append_left _ (List.mem_of_getElem? (i := 36) rfl))))))
set_option maxRecDepth 100000 in
theorem w_537 : (.fieldLink RX8 138 "OldestFirst$Town" "master" "[I" : Cond) ∈ ALLW := List.mem_append_right _ (List.mem_append_right _ (List.mem_append_right _ (List.mem_append_right _ (List.mem_append_right _ (List.mem_append_left _ (List.mem_of_getElem? (i := 37) rfl))))))
set_option maxRecDepth 100000 in
theorem w_538 : (.methodLink RX8 128 yX7_isPerson : Cond) ∈ ALLW := List.mem_append_right _ (List.mem_append_right _ (List.mem_append_right _ (List.mem_append_right _ (List.mem_append_right _ (List.mem_append_left _ (List.mem_of_getElem? (i := 38) rfl))))))
set_option maxRecDepth 100000 in
theorem w_539 : (.instanceMethod yX7_isPerson : Cond) ∈ ALLW := List.mem_append_right _ (List.mem_append_right _ (List.mem_append_right _ (List.mem_append_right _ (List.mem_append_right _ (List.mem_append_left _ (List.mem_of_getElem? (i := 39) rfl))))))
set_option maxRecDepth 100000 in
theorem w_540 : (.selects RX7 yX7_isPerson yX7_isPerson : Cond) ∈ ALLW := List.mem_append_right _ (List.mem_append_right _ (List.mem_append_right _ (List.mem_append_right _ (List.mem_append_right _ (List.mem_append_left _ (List.mem_of_getElem? (i := 40) rfl))))))
set_option maxRecDepth 100000 in
theorem w_541 : (.code yX7_isPerson cX7_isPerson 2 (some .boolean) : Cond) ∈ ALLW := List.mem_append_right _ (List.mem_append_right _ (List.mem_append_right _ (List.mem_append_right _ (List.mem_append_right _ (List.mem_append_left _ (List.mem_of_getElem? (i := 41) rfl))))))
set_option maxRecDepth 100000 in
theorem w_542 : (.methodLink RL 36 yX9_person : Cond) ∈ ALLW := List.mem_append_right _ (List.mem_append_right _ (List.mem_append_right _ (List.mem_append_right _ (List.mem_append_right _ (List.mem_append_left _ (List.mem_of_getElem? (i := 42) rfl))))))
set_option maxRecDepth 100000 in
theorem w_543 : (.instanceMethod yX9_person : Cond) ∈ ALLW := List.mem_append_right _ (List.mem_append_right _ (List.mem_append_right _ (List.mem_append_right _ (List.mem_append_right _ (List.mem_append_left _ (List.mem_of_getElem? (i := 43) rfl))))))
set_option maxRecDepth 100000 in
theorem w_544 : (.selects RX9 yX9_person yX9_person : Cond) ∈ ALLW := List.mem_append_right _ (List.mem_append_right _ (List.mem_append_right _ (List.mem_append_right _ (List.mem_append_right _ (List.mem_append_left _ (List.mem_of_getElem? (i := 44) rfl))))))
set_option maxRecDepth 100000 in
theorem w_545 : (.code yX9_person cX9_person 3 (some .int) : Cond) ∈ ALLW := List.mem_append_right _ (List.mem_append_right _ (List.mem_append_right _ (List.mem_append_right _ (List.mem_append_right _ (List.mem_append_left _ (List.mem_of_getElem? (i := 45) rfl))))))
set_option maxRecDepth 100000 in
theorem w_546 : (.constantLong RX9 291 (2) : Cond) ∈ ALLW := List.mem_append_right _ (List.mem_append_right _ (List.mem_append_right _ (List.mem_append_right _ (List.mem_append_right _ (List.mem_append_left _ (List.mem_of_getElem? (i := 46) rfl))))))
set_option maxRecDepth 100000 in
theorem w_547 : (.methodLink RX9 288 yX9_isPerson : Cond) ∈ ALLW := List.mem_append_right _ (List.mem_append_right _ (List.mem_append_right _ (List.mem_append_right _ (List.mem_append_right _ (List.mem_append_left _ (List.mem_of_getElem? (i := 47) rfl))))))
set_option maxRecDepth 100000 in
theorem w_548 : (.instanceMethod yX9_isPerson : Cond) ∈ ALLW := List.mem_append_right _ (List.mem_append_right _ (List.mem_append_right _ (List.mem_append_right _ (List.mem_append_right _ (List.mem_append_left _ (List.mem_of_getElem? (i := 48) rfl))))))
set_option maxRecDepth 100000 in
theorem w_549 : (.selects RX9 yX9_isPerson yX9_isPerson : Cond) ∈ ALLW := List.mem_append_right _ (List.mem_append_right _ (List.mem_append_right _ (List.mem_append_right _ (List.mem_append_right _ (List.mem_append_left _ (List.mem_of_getElem? (i := 49) rfl))))))
set_option maxRecDepth 100000 in
theorem w_550 : (.code yX9_isPerson cX9_isPerson 2 (some .boolean) : Cond) ∈ ALLW := List.mem_append_right _ (List.mem_append_right _ (List.mem_append_right _ (List.mem_append_right _ (List.mem_append_right _ (List.mem_append_left _ (List.mem_of_getElem? (i := 50) rfl))))))
set_option maxRecDepth 100000 in
theorem w_551 : (.methodLink RL 37 yX8_letter : Cond) ∈ ALLW := List.mem_append_right _ (List.mem_append_right _ (List.mem_append_right _ (List.mem_append_right _ (List.mem_append_right _ (List.mem_append_left _ (List.mem_of_getElem? (i := 51) rfl))))))
set_option maxRecDepth 100000 in
theorem w_552 : (.instanceMethod yX8_letter : Cond) ∈ ALLW := List.mem_append_right _ (List.mem_append_right _ (List.mem_append_right _ (List.mem_append_right _ (List.mem_append_right _ (List.mem_append_left _ (List.mem_of_getElem? (i := 52) rfl))))))
set_option maxRecDepth 100000 in
theorem w_553 : (.selects RX8 yX8_letter yX8_letter : Cond) ∈ ALLW := List.mem_append_right _ (List.mem_append_right _ (List.mem_append_right _ (List.mem_append_right _ (List.mem_append_right _ (List.mem_append_left _ (List.mem_of_getElem? (i := 53) rfl))))))
set_option maxRecDepth 100000 in
theorem w_554 : (.code yX8_letter cX8_letter 3 (some .int) : Cond) ∈ ALLW := List.mem_append_right _ (List.mem_append_right _ (List.mem_append_right _ (List.mem_append_right _ (List.mem_append_right _ (List.mem_append_left _ (List.mem_of_getElem? (i := 54) rfl))))))
set_option maxRecDepth 100000 in
theorem w_555 : (.fieldLink RX8 144 "OldestFirst$Town" "from" "[I" : Cond) ∈ ALLW := List.mem_append_right _ (List.mem_append_right _ (List.mem_append_right _ (List.mem_append_right _ (List.mem_append_right _ (List.mem_append_left _ (List.mem_of_getElem? (i := 55) rfl))))))
set_option maxRecDepth 100000 in
theorem w_556 : (.fieldLink RX8 147 "OldestFirst$Town" "to" "[I" : Cond) ∈ ALLW := List.mem_append_right _ (List.mem_append_right _ (List.mem_append_right _ (List.mem_append_right _ (List.mem_append_right _ (List.mem_append_left _ (List.mem_of_getElem? (i := 56) rfl))))))
set_option maxRecDepth 100000 in
theorem w_557 : (.fieldLink RX8 150 "OldestFirst$Town" "on" "[I" : Cond) ∈ ALLW := List.mem_append_right _ (List.mem_append_right _ (List.mem_append_right _ (List.mem_append_right _ (List.mem_append_right _ (List.mem_append_left _ (List.mem_of_getElem? (i := 57) rfl))))))
set_option maxRecDepth 100000 in
theorem w_558 : (.fieldLink RX8 157 "OldestFirst$Run" "came" "[I" : Cond) ∈ ALLW := List.mem_append_right _ (List.mem_append_right _ (List.mem_append_right _ (List.mem_append_right _ (List.mem_append_right _ (List.mem_append_left _ (List.mem_of_getElem? (i := 58) rfl))))))
set_option maxRecDepth 100000 in
theorem w_559 : (.fieldLink RX8 160 "OldestFirst$Town" "told" "[I" : Cond) ∈ ALLW := List.mem_append_right _ (List.mem_append_right _ (List.mem_append_right _ (List.mem_append_right _ (List.mem_append_right _ (List.mem_append_left _ (List.mem_of_getElem? (i := 59) rfl))))))
set_option maxRecDepth 100000 in
theorem w_560 : (.fieldLink RX8 163 "OldestFirst$Town" "after" "[I" : Cond) ∈ ALLW := List.mem_append_right _ (List.mem_append_right _ (List.mem_append_right _ (List.mem_append_right _ (List.mem_append_right _ (List.mem_append_left _ (List.mem_of_getElem? (i := 60) rfl))))))
set_option maxRecDepth 100000 in
theorem w_561 : (.fieldLink RX8 166 "OldestFirst$Town" "worth" "[I" : Cond) ∈ ALLW := List.mem_append_right _ (List.mem_append_right _ (List.mem_append_right _ (List.mem_append_right _ (List.mem_append_right _ (List.mem_append_left _ (List.mem_of_getElem? (i := 61) rfl))))))
set_option maxRecDepth 100000 in
theorem w_562 : (.fieldLink RX8 169 "OldestFirst$Town" "by" "[I" : Cond) ∈ ALLW := List.mem_append_right _ (List.mem_append_right _ (List.mem_append_right _ (List.mem_append_right _ (List.mem_append_right _ (List.mem_append_left _ (List.mem_of_getElem? (i := 62) rfl))))))
set_option maxRecDepth 100000 in
theorem w_563 : (.methodLink RX8 141 yX7_isLetter : Cond) ∈ ALLW := List.mem_append_right _ (List.mem_append_right _ (List.mem_append_right _ (List.mem_append_right _ (List.mem_append_right _ (List.mem_append_left _ (List.mem_of_getElem? (i := 63) rfl))))))
set_option maxRecDepth 100000 in
theorem w_564 : (.instanceMethod yX7_isLetter : Cond) ∈ ALLW := List.mem_append_right _ (List.mem_append_right _ (List.mem_append_right _ (List.mem_append_right _ (List.mem_append_right _ (List.mem_append_left _ (List.mem_of_getElem? (i := 64) rfl))))))
set_option maxRecDepth 100000 in
theorem w_565 : (.selects RX7 yX7_isLetter yX7_isLetter : Cond) ∈ ALLW := List.mem_append_right _ (List.mem_append_right _ (List.mem_append_right _ (List.mem_append_right _ (List.mem_append_right _ (List.mem_append_left _ (List.mem_of_getElem? (i := 65) rfl))))))
set_option maxRecDepth 100000 in
theorem w_566 : (.code yX7_isLetter cX7_isLetter 2 (some .boolean) : Cond) ∈ ALLW := List.mem_append_right _ (List.mem_append_right _ (List.mem_append_right _ (List.mem_append_right _ (List.mem_append_right _ (List.mem_append_left _ (List.mem_of_getElem? (i := 66) rfl))))))
set_option maxRecDepth 100000 in
theorem w_567 : (.methodLink RX7 83 yX7_isTold : Cond) ∈ ALLW := List.mem_append_right _ (List.mem_append_right _ (List.mem_append_right _ (List.mem_append_right _ (List.mem_append_right _ (List.mem_append_left _ (List.mem_of_getElem? (i := 67) rfl))))))
set_option maxRecDepth 100000 in
theorem w_568 : (.instanceMethod yX7_isTold : Cond) ∈ ALLW := List.mem_append_right _ (List.mem_append_right _ (List.mem_append_right _ (List.mem_append_right _ (List.mem_append_right _ (List.mem_append_left _ (List.mem_of_getElem? (i := 68) rfl))))))
set_option maxRecDepth 100000 in
theorem w_569 : (.selects RX7 yX7_isTold yX7_isTold : Cond) ∈ ALLW := List.mem_append_right _ (List.mem_append_right _ (List.mem_append_right _ (List.mem_append_right _ (List.mem_append_right _ (List.mem_append_left _ (List.mem_of_getElem? (i := 69) rfl))))))
set_option maxRecDepth 100000 in
theorem w_570 : (.code yX7_isTold cX7_isTold 2 (some .boolean) : Cond) ∈ ALLW := List.mem_append_right _ (List.mem_append_right _ (List.mem_append_right _ (List.mem_append_right _ (List.mem_append_right _ (List.mem_append_left _ (List.mem_of_getElem? (i := 70) rfl))))))
set_option maxRecDepth 100000 in
theorem w_571 : (.methodLink RX8 153 yX8_asItIs : Cond) ∈ ALLW := List.mem_append_right _ (List.mem_append_right _ (List.mem_append_right _ (List.mem_append_right _ (List.mem_append_right _ (List.mem_append_left _ (List.mem_of_getElem? (i := 71) rfl))))))
set_option maxRecDepth 100000 in
theorem w_572 : (.instanceMethod yX8_asItIs : Cond) ∈ ALLW := List.mem_append_right _ (List.mem_append_right _ (List.mem_append_right _ (List.mem_append_right _ (List.mem_append_right _ (List.mem_append_left _ (List.mem_of_getElem? (i := 72) rfl))))))
set_option maxRecDepth 100000 in
theorem w_573 : (.selects RX8 yX8_asItIs yX8_asItIs : Cond) ∈ ALLW := List.mem_append_right _ (List.mem_append_right _ (List.mem_append_right _ (List.mem_append_right _ (List.mem_append_right _ (List.mem_append_left _ (List.mem_of_getElem? (i := 73) rfl))))))
set_option maxRecDepth 100000 in
theorem w_574 : (.code yX8_asItIs cX8_asItIs 1 (some (.object "OldestFirst$Run")) : Cond) ∈ ALLW := List.mem_append_right _ (List.mem_append_right _ (List.mem_append_right _ (List.mem_append_right _ (List.mem_append_right _ (List.mem_append_left _ (List.mem_of_getElem? (i := 74) rfl))))))
set_option maxRecDepth 100000 in
theorem w_575 : (.methodLink RX8 245 yX2_take : Cond) ∈ ALLW := List.mem_append_right _ (List.mem_append_right _ (List.mem_append_right _ (List.mem_append_right _ (List.mem_append_right _ (List.mem_append_left _ (List.mem_of_getElem? (i := 75) rfl))))))
set_option maxRecDepth 100000 in
theorem w_576 : (.instanceMethod yX2_take : Cond) ∈ ALLW := List.mem_append_right _ (List.mem_append_right _ (List.mem_append_right _ (List.mem_append_right _ (List.mem_append_right _ (List.mem_append_left _ (List.mem_of_getElem? (i := 76) rfl))))))
set_option maxRecDepth 100000 in
theorem w_577 : (.selects RX2 yX2_take yX2_take : Cond) ∈ ALLW := List.mem_append_right _ (List.mem_append_right _ (List.mem_append_right _ (List.mem_append_right _ (List.mem_append_right _ (List.mem_append_left _ (List.mem_of_getElem? (i := 77) rfl))))))
set_option maxRecDepth 100000 in
theorem w_578 : (.code yX2_take cX2_take 3 none : Cond) ∈ ALLW := List.mem_append_right _ (List.mem_append_right _ (List.mem_append_right _ (List.mem_append_right _ (List.mem_append_right _ (List.mem_append_left _ (List.mem_of_getElem? (i := 78) rfl))))))
set_option maxRecDepth 100000 in
theorem w_579 : (.methodLink RX2 38 yX7_copyFrom : Cond) ∈ ALLW := List.mem_append_right _ (List.mem_append_right _ (List.mem_append_right _ (List.mem_append_right _ (List.mem_append_right _ (List.mem_append_left _ (List.mem_of_getElem? (i := 79) rfl))))))
set_option maxRecDepth 100000 in
theorem w_580 : (.methodLink RX8 252 yX4_go : Cond) ∈ ALLW := List.mem_append_right _ (List.mem_append_right _ (List.mem_append_right _ (List.mem_append_right _ (List.mem_append_right _ (List.mem_append_left _ (List.mem_of_getElem? (i := 80) rfl))))))
set_option maxRecDepth 100000 in
theorem w_581 : (.instanceMethod yX4_go : Cond) ∈ ALLW := List.mem_append_right _ (List.mem_append_right _ (List.mem_append_right _ (List.mem_append_right _ (List.mem_append_right _ (List.mem_append_left _ (List.mem_of_getElem? (i := 81) rfl))))))
set_option maxRecDepth 100000 in
theorem w_582 : (.selects RX4 yX4_go yX4_go : Cond) ∈ ALLW := List.mem_append_right _ (List.mem_append_right _ (List.mem_append_right _ (List.mem_append_right _ (List.mem_append_right _ (List.mem_append_left _ (List.mem_of_getElem? (i := 82) rfl))))))
set_option maxRecDepth 100000 in
theorem w_583 : (.code yX4_go cX4_go 4 none : Cond) ∈ ALLW := List.mem_append_right _ (List.mem_append_right _ (List.mem_append_right _ (List.mem_append_right _ (List.mem_append_right _ (List.mem_append_left _ (List.mem_of_getElem? (i := 83) rfl))))))
set_option maxRecDepth 100000 in
theorem w_584 : (.fieldLink RX4 60 "OldestFirst$Plan" "town" "LOldestFirst$Town;" : Cond) ∈ ALLW := List.mem_append_right _ (List.mem_append_right _ (List.mem_append_right _ (List.mem_append_right _ (List.mem_append_right _ (List.mem_append_left _ (List.mem_of_getElem? (i := 84) rfl))))))
set_option maxRecDepth 100000 in
theorem w_585 : (.fieldLink RX4 70 "OldestFirst$Town" "days" "I" : Cond) ∈ ALLW := List.mem_append_right _ (List.mem_append_right _ (List.mem_append_right _ (List.mem_append_right _ (List.mem_append_right _ (List.mem_append_left _ (List.mem_of_getElem? (i := 85) rfl))))))
set_option maxRecDepth 100000 in
theorem w_586 : (.fieldLink RX4 75 "OldestFirst$Plan" "burnDay" "I" : Cond) ∈ ALLW := List.mem_append_right _ (List.mem_append_right _ (List.mem_append_right _ (List.mem_append_right _ (List.mem_append_right _ (List.mem_append_left _ (List.mem_of_getElem? (i := 86) rfl))))))
set_option maxRecDepth 100000 in
theorem w_587 : (.fieldLink RX4 78 "OldestFirst$Plan" "burnPerson" "I" : Cond) ∈ ALLW := List.mem_append_right _ (List.mem_append_right _ (List.mem_append_right _ (List.mem_append_right _ (List.mem_append_right _ (List.mem_append_left _ (List.mem_of_getElem? (i := 87) rfl))))))
set_option maxRecDepth 100000 in
theorem w_588 : (.fieldLink RX4 85 "OldestFirst$Plan" "visitDay" "I" : Cond) ∈ ALLW := List.mem_append_right _ (List.mem_append_right _ (List.mem_append_right _ (List.mem_append_right _ (List.mem_append_right _ (List.mem_append_left _ (List.mem_of_getElem? (i := 88) rfl))))))
set_option maxRecDepth 100000 in
theorem w_589 : (.fieldLink RX4 88 "OldestFirst$Plan" "visitLetter" "I" : Cond) ∈ ALLW := List.mem_append_right _ (List.mem_append_right _ (List.mem_append_right _ (List.mem_append_right _ (List.mem_append_right _ (List.mem_append_left _ (List.mem_of_getElem? (i := 89) rfl))))))
set_option maxRecDepth 100000 in
theorem w_590 : (.fieldLink RX4 95 "OldestFirst$Town" "people" "I" : Cond) ∈ ALLW := List.mem_append_right _ (List.mem_append_right _ (List.mem_append_right _ (List.mem_append_right _ (List.mem_append_right _ (List.mem_append_left _ (List.mem_of_getElem? (i := 90) rfl))))))
set_option maxRecDepth 100000 in
theorem w_591 : (.methodLink RX4 66 yX4_begin : Cond) ∈ ALLW := List.mem_append_right _ (List.mem_append_right _ (List.mem_append_right _ (List.mem_append_right _ (List.mem_append_right _ (List.mem_append_left _ (List.mem_of_getElem? (i := 91) rfl))))))
set_option maxRecDepth 100000 in
theorem w_592 : (.instanceMethod yX4_begin : Cond) ∈ ALLW := List.mem_append_right _ (List.mem_append_right _ (List.mem_append_right _ (List.mem_append_right _ (List.mem_append_right _ (List.mem_append_left _ (List.mem_of_getElem? (i := 92) rfl))))))
set_option maxRecDepth 100000 in
theorem w_593 : (.selects RX4 yX4_begin yX4_begin : Cond) ∈ ALLW := List.mem_append_right _ (List.mem_append_right _ (List.mem_append_right _ (List.mem_append_right _ (List.mem_append_right _ (List.mem_append_left _ (List.mem_of_getElem? (i := 93) rfl))))))
set_option maxRecDepth 100000 in
theorem w_594 : (.code yX4_begin cX4_begin 3 none : Cond) ∈ ALLW := List.mem_append_right _ (List.mem_append_right _ (List.mem_append_right _ (List.mem_append_right _ (List.mem_append_right _ (List.mem_append_left _ (List.mem_of_getElem? (i := 94) rfl))))))
set_option maxRecDepth 100000 in
theorem w_595 : (.fieldLink RX4 112 "OldestFirst$Town" "seed" "I" : Cond) ∈ ALLW := List.mem_append_right _ (List.mem_append_right _ (List.mem_append_right _ (List.mem_append_right _ (List.mem_append_right _ (List.mem_append_left _ (List.mem_of_getElem? (i := 95) rfl))))))
set_option maxRecDepth 100000 in
theorem w_596 : (.fieldLink RX4 115 "OldestFirst$Town" "letters" "I" : Cond) ∈ ALLW := List.mem_append_right _ (List.mem_append_right _ (List.mem_append_right _ (List.mem_append_right _ (List.mem_append_right _ (List.mem_append_left _ (List.mem_of_getElem? (i := 96) rfl))))))
set_option maxRecDepth 100000 in
theorem w_597 : (.fieldLink RX4 118 "OldestFirst$Town" "on" "[I" : Cond) ∈ ALLW := List.mem_append_right _ (List.mem_append_right _ (List.mem_append_right _ (List.mem_append_right _ (List.mem_append_right _ (List.mem_append_left _ (List.mem_of_getElem? (i := 97) rfl))))))
set_option maxRecDepth 100000 in
theorem w_598 : (.methodLink RX4 106 yJ7_fill_53178 : Cond) ∈ ALLW := List.mem_append_right _ (List.mem_append_right _ (List.mem_append_right _ (List.mem_append_right _ (List.mem_append_right _ (List.mem_append_left _ (List.mem_of_getElem? (i := 98) rfl))))))
set_option maxRecDepth 100000 in
theorem w_599 : (.methodLink RX4 121 yX4_expect : Cond) ∈ ALLW := List.mem_append_right _ (List.mem_append_right _ (List.mem_append_right _ (List.mem_append_right _ (List.mem_append_right _ (List.mem_append_left _ (List.mem_of_getElem? (i := 99) rfl))))))
set_option maxRecDepth 100000 in
theorem w_600 : (.instanceMethod yX4_expect : Cond) ∈ ALLW := List.mem_append_right _ (List.mem_append_right _ (List.mem_append_right _ (List.mem_append_right _ (List.mem_append_right _ (List.mem_append_right _ (List.mem_append_left _ (List.mem_of_getElem? (i := 0) rfl)))))))
set_option maxRecDepth 100000 in
theorem w_601 : (.selects RX4 yX4_expect yX4_expect : Cond) ∈ ALLW := List.mem_append_right _ (List.mem_append_right _ (List.mem_append_right _ (List.mem_append_right _ (List.mem_append_right _ (List.mem_append_right _ (List.mem_append_left _ (List.mem_of_getElem? (i := 1) rfl)))))))
set_option maxRecDepth 100000 in
theorem w_602 : (.code yX4_expect cX4_expect 3 none : Cond) ∈ ALLW := List.mem_append_right _ (List.mem_append_right _ (List.mem_append_right _ (List.mem_append_right _ (List.mem_append_right _ (List.mem_append_right _ (List.mem_append_left _ (List.mem_of_getElem? (i := 2) rfl)))))))
set_option maxRecDepth 100000 in
theorem w_603 : (.methodLink RX4 81 yX4_bringPost : Cond) ∈ ALLW := List.mem_append_right _ (List.mem_append_right _ (List.mem_append_right _ (List.mem_append_right _ (List.mem_append_right _ (List.mem_append_right _ (List.mem_append_left _ (List.mem_of_getElem? (i := 3) rfl)))))))
set_option maxRecDepth 100000 in
theorem w_604 : (.instanceMethod yX4_bringPost : Cond) ∈ ALLW := List.mem_append_right _ (List.mem_append_right _ (List.mem_append_right _ (List.mem_append_right _ (List.mem_append_right _ (List.mem_append_right _ (List.mem_append_left _ (List.mem_of_getElem? (i := 4) rfl)))))))
set_option maxRecDepth 100000 in
theorem w_605 : (.selects RX4 yX4_bringPost yX4_bringPost : Cond) ∈ ALLW := List.mem_append_right _ (List.mem_append_right _ (List.mem_append_right _ (List.mem_append_right _ (List.mem_append_right _ (List.mem_append_right _ (List.mem_append_left _ (List.mem_of_getElem? (i := 5) rfl)))))))
set_option maxRecDepth 100000 in
theorem w_606 : (.code yX4_bringPost cX4_bringPost 6 none : Cond) ∈ ALLW := List.mem_append_right _ (List.mem_append_right _ (List.mem_append_right _ (List.mem_append_right _ (List.mem_append_right _ (List.mem_append_right _ (List.mem_append_left _ (List.mem_of_getElem? (i := 6) rfl)))))))
set_option maxRecDepth 100000 in
theorem w_607 : (.fieldLink RX4 128 "OldestFirst$Town" "from" "[I" : Cond) ∈ ALLW := List.mem_append_right _ (List.mem_append_right _ (List.mem_append_right _ (List.mem_append_right _ (List.mem_append_right _ (List.mem_append_right _ (List.mem_append_left _ (List.mem_of_getElem? (i := 7) rfl)))))))
set_option maxRecDepth 100000 in
theorem w_608 : (.fieldLink RX4 131 "OldestFirst$Town" "to" "[I" : Cond) ∈ ALLW := List.mem_append_right _ (List.mem_append_right _ (List.mem_append_right _ (List.mem_append_right _ (List.mem_append_right _ (List.mem_append_right _ (List.mem_append_left _ (List.mem_of_getElem? (i := 8) rfl)))))))
set_option maxRecDepth 100000 in
theorem w_609 : (.fieldLink RX4 137 "OldestFirst$Town" "told" "[I" : Cond) ∈ ALLW := List.mem_append_right _ (List.mem_append_right _ (List.mem_append_right _ (List.mem_append_right _ (List.mem_append_right _ (List.mem_append_right _ (List.mem_append_left _ (List.mem_of_getElem? (i := 9) rfl)))))))
set_option maxRecDepth 100000 in
theorem w_610 : (.methodLink RX4 125 yX4_lay : Cond) ∈ ALLW := List.mem_append_right _ (List.mem_append_right _ (List.mem_append_right _ (List.mem_append_right _ (List.mem_append_right _ (List.mem_append_right _ (List.mem_append_left _ (List.mem_of_getElem? (i := 10) rfl)))))))
set_option maxRecDepth 100000 in
theorem w_611 : (.instanceMethod yX4_lay : Cond) ∈ ALLW := List.mem_append_right _ (List.mem_append_right _ (List.mem_append_right _ (List.mem_append_right _ (List.mem_append_right _ (List.mem_append_right _ (List.mem_append_left _ (List.mem_of_getElem? (i := 11) rfl)))))))
set_option maxRecDepth 100000 in
theorem w_612 : (.selects RX4 yX4_lay yX4_lay : Cond) ∈ ALLW := List.mem_append_right _ (List.mem_append_right _ (List.mem_append_right _ (List.mem_append_right _ (List.mem_append_right _ (List.mem_append_right _ (List.mem_append_left _ (List.mem_of_getElem? (i := 12) rfl)))))))
set_option maxRecDepth 100000 in
theorem w_613 : (.code yX4_lay cX4_lay 6 none : Cond) ∈ ALLW := List.mem_append_right _ (List.mem_append_right _ (List.mem_append_right _ (List.mem_append_right _ (List.mem_append_right _ (List.mem_append_right _ (List.mem_append_left _ (List.mem_of_getElem? (i := 13) rfl)))))))
set_option maxRecDepth 100000 in
theorem w_614 : (.methodLink RX4 140 yX7_hoursNeeded : Cond) ∈ ALLW := List.mem_append_right _ (List.mem_append_right _ (List.mem_append_right _ (List.mem_append_right _ (List.mem_append_right _ (List.mem_append_right _ (List.mem_append_left _ (List.mem_of_getElem? (i := 14) rfl)))))))
set_option maxRecDepth 100000 in
theorem w_615 : (.instanceMethod yX7_hoursNeeded : Cond) ∈ ALLW := List.mem_append_right _ (List.mem_append_right _ (List.mem_append_right _ (List.mem_append_right _ (List.mem_append_right _ (List.mem_append_right _ (List.mem_append_left _ (List.mem_of_getElem? (i := 15) rfl)))))))
set_option maxRecDepth 100000 in
theorem w_616 : (.selects RX7 yX7_hoursNeeded yX7_hoursNeeded : Cond) ∈ ALLW := List.mem_append_right _ (List.mem_append_right _ (List.mem_append_right _ (List.mem_append_right _ (List.mem_append_right _ (List.mem_append_right _ (List.mem_append_left _ (List.mem_of_getElem? (i := 16) rfl)))))))
set_option maxRecDepth 100000 in
theorem w_617 : (.code yX7_hoursNeeded cX7_hoursNeeded 3 (some .int) : Cond) ∈ ALLW := List.mem_append_right _ (List.mem_append_right _ (List.mem_append_right _ (List.mem_append_right _ (List.mem_append_right _ (List.mem_append_right _ (List.mem_append_left _ (List.mem_of_getElem? (i := 17) rfl)))))))
set_option maxRecDepth 100000 in
theorem w_618 : (.methodLink RX4 144 yX2_keyOf : Cond) ∈ ALLW := List.mem_append_right _ (List.mem_append_right _ (List.mem_append_right _ (List.mem_append_right _ (List.mem_append_right _ (List.mem_append_right _ (List.mem_append_left _ (List.mem_of_getElem? (i := 18) rfl)))))))
set_option maxRecDepth 100000 in
theorem w_619 : (.instanceMethod yX2_keyOf : Cond) ∈ ALLW := List.mem_append_right _ (List.mem_append_right _ (List.mem_append_right _ (List.mem_append_right _ (List.mem_append_right _ (List.mem_append_right _ (List.mem_append_left _ (List.mem_of_getElem? (i := 19) rfl)))))))
set_option maxRecDepth 100000 in
theorem w_620 : (.selects RX2 yX2_keyOf yX2_keyOf : Cond) ∈ ALLW := List.mem_append_right _ (List.mem_append_right _ (List.mem_append_right _ (List.mem_append_right _ (List.mem_append_right _ (List.mem_append_right _ (List.mem_append_left _ (List.mem_of_getElem? (i := 20) rfl)))))))
set_option maxRecDepth 100000 in
theorem w_621 : (.code yX2_keyOf cX2_keyOf 4 (some .int) : Cond) ∈ ALLW := List.mem_append_right _ (List.mem_append_right _ (List.mem_append_right _ (List.mem_append_right _ (List.mem_append_right _ (List.mem_append_right _ (List.mem_append_left _ (List.mem_of_getElem? (i := 21) rfl)))))))
set_option maxRecDepth 100000 in
theorem w_622 : (.fieldLink RX2 66 "OldestFirst$Town" "law" "I" : Cond) ∈ ALLW := List.mem_append_right _ (List.mem_append_right _ (List.mem_append_right _ (List.mem_append_right _ (List.mem_append_right _ (List.mem_append_right _ (List.mem_append_left _ (List.mem_of_getElem? (i := 22) rfl)))))))
set_option maxRecDepth 100000 in
theorem w_623 : (.fieldLink RX2 69 "OldestFirst$Town" "worth" "[I" : Cond) ∈ ALLW := List.mem_append_right _ (List.mem_append_right _ (List.mem_append_right _ (List.mem_append_right _ (List.mem_append_right _ (List.mem_append_right _ (List.mem_append_left _ (List.mem_of_getElem? (i := 23) rfl)))))))
set_option maxRecDepth 100000 in
theorem w_624 : (.methodLink RX4 134 yX4_hear : Cond) ∈ ALLW := List.mem_append_right _ (List.mem_append_right _ (List.mem_append_right _ (List.mem_append_right _ (List.mem_append_right _ (List.mem_append_right _ (List.mem_append_left _ (List.mem_of_getElem? (i := 24) rfl)))))))
set_option maxRecDepth 100000 in
theorem w_625 : (.instanceMethod yX4_hear : Cond) ∈ ALLW := List.mem_append_right _ (List.mem_append_right _ (List.mem_append_right _ (List.mem_append_right _ (List.mem_append_right _ (List.mem_append_right _ (List.mem_append_left _ (List.mem_of_getElem? (i := 25) rfl)))))))
set_option maxRecDepth 100000 in
theorem w_626 : (.selects RX4 yX4_hear yX4_hear : Cond) ∈ ALLW := List.mem_append_right _ (List.mem_append_right _ (List.mem_append_right _ (List.mem_append_right _ (List.mem_append_right _ (List.mem_append_right _ (List.mem_append_left _ (List.mem_of_getElem? (i := 26) rfl)))))))
set_option maxRecDepth 100000 in
theorem w_627 : (.code yX4_hear cX4_hear 3 none : Cond) ∈ ALLW := List.mem_append_right _ (List.mem_append_right _ (List.mem_append_right _ (List.mem_append_right _ (List.mem_append_right _ (List.mem_append_right _ (List.mem_append_left _ (List.mem_of_getElem? (i := 27) rfl)))))))
set_option maxRecDepth 100000 in
theorem w_628 : (.methodLink RX4 91 yX4_seeVisitor : Cond) ∈ ALLW := List.mem_append_right _ (List.mem_append_right _ (List.mem_append_right _ (List.mem_append_right _ (List.mem_append_right _ (List.mem_append_right _ (List.mem_append_left _ (List.mem_of_getElem? (i := 28) rfl)))))))
set_option maxRecDepth 100000 in
theorem w_629 : (.instanceMethod yX4_seeVisitor : Cond) ∈ ALLW := List.mem_append_right _ (List.mem_append_right _ (List.mem_append_right _ (List.mem_append_right _ (List.mem_append_right _ (List.mem_append_right _ (List.mem_append_left _ (List.mem_of_getElem? (i := 29) rfl)))))))
set_option maxRecDepth 100000 in
theorem w_630 : (.selects RX4 yX4_seeVisitor yX4_seeVisitor : Cond) ∈ ALLW := List.mem_append_right _ (List.mem_append_right _ (List.mem_append_right _ (List.mem_append_right _ (List.mem_append_right _ (List.mem_append_right _ (List.mem_append_left _ (List.mem_of_getElem? (i := 30) rfl)))))))
set_option maxRecDepth 100000 in
theorem w_631 : (.code yX4_seeVisitor cX4_seeVisitor 5 none : Cond) ∈ ALLW := List.mem_append_right _ (List.mem_append_right _ (List.mem_append_right _ (List.mem_append_right _ (List.mem_append_right _ (List.mem_append_right _ (List.mem_append_left _ (List.mem_of_getElem? (i := 31) rfl)))))))
set_option maxRecDepth 100000 in
theorem w_632 : (.methodLink RX4 148 yX4_takeAway : Cond) ∈ ALLW := List.mem_append_right _ (List.mem_append_right _ (List.mem_append_right _ (List.mem_append_right _ (List.mem_append_right _ (List.mem_append_right _ (List.mem_append_left _ (List.mem_of_getElem? (i := 32) rfl)))))))
set_option maxRecDepth 100000 in
theorem w_633 : (.instanceMethod yX4_takeAway : Cond) ∈ ALLW := List.mem_append_right _ (List.mem_append_right _ (List.mem_append_right _ (List.mem_append_right _ (List.mem_append_right _ (List.mem_append_right _ (List.mem_append_left _ (List.mem_of_getElem? (i := 33) rfl)))))))
set_option maxRecDepth 100000 in
theorem w_634 : (.selects RX4 yX4_takeAway yX4_takeAway : Cond) ∈ ALLW := List.mem_append_right _ (List.mem_append_right _ (List.mem_append_right _ (List.mem_append_right _ (List.mem_append_right _ (List.mem_append_right _ (List.mem_append_left _ (List.mem_of_getElem? (i := 34) rfl)))))))
set_option maxRecDepth 100000 in
theorem w_635 : (.code yX4_takeAway cX4_takeAway 5 none : Cond) ∈ ALLW := List.mem_append_right _ (List.mem_append_right _ (List.mem_append_right _ (List.mem_append_right _ (List.mem_append_right _ (List.mem_append_right _ (List.mem_append_left _ (List.mem_of_getElem? (i := 35) rfl)))))))
set_option maxRecDepth 100000 in
theorem w_636 : (.methodLink RX4 189 arraycopyName : Cond) ∈ ALLW := List.mem_append_right _ (List.mem_append_right _ (List.mem_append_right _ (List.mem_append_right _ (List.mem_append_right _ (List.mem_append_right _ (List.mem_append_left _ (List.mem_of_getElem? (i := 36) rfl)))))))
set_option maxRecDepth 100000 in
theorem w_637 : (.methodLink RX4 98 yX4_workOneDay : Cond) ∈ ALLW := List.mem_append_right _ (List.mem_append_right _ (List.mem_append_right _ (List.mem_append_right _ (List.mem_append_right _ (List.mem_append_right _ (List.mem_append_left _ (List.mem_of_getElem? (i := 37) rfl)))))))
set_option maxRecDepth 100000 in
theorem w_638 : (.instanceMethod yX4_workOneDay : Cond) ∈ ALLW := List.mem_append_right _ (List.mem_append_right _ (List.mem_append_right _ (List.mem_append_right _ (List.mem_append_right _ (List.mem_append_right _ (List.mem_append_left _ (List.mem_of_getElem? (i := 38) rfl)))))))
set_option maxRecDepth 100000 in
theorem w_639 : (.selects RX4 yX4_workOneDay yX4_workOneDay : Cond) ∈ ALLW := List.mem_append_right _ (List.mem_append_right _ (List.mem_append_right _ (List.mem_append_right _ (List.mem_append_right _ (List.mem_append_right _ (List.mem_append_left _ (List.mem_of_getElem? (i := 39) rfl)))))))
set_option maxRecDepth 100000 in
theorem w_640 : (.code yX4_workOneDay cX4_workOneDay 5 none : Cond) ∈ ALLW := List.mem_append_right _ (List.mem_append_right _ (List.mem_append_right _ (List.mem_append_right _ (List.mem_append_right _ (List.mem_append_right _ (List.mem_append_left _ (List.mem_of_getElem? (i := 40) rfl)))))))
set_option maxRecDepth 100000 in
theorem w_641 : (.fieldLink RX4 158 "OldestFirst$Town" "kind" "[I" : Cond) ∈ ALLW := List.mem_append_right _ (List.mem_append_right _ (List.mem_append_right _ (List.mem_append_right _ (List.mem_append_right _ (List.mem_append_right _ (List.mem_append_left _ (List.mem_of_getElem? (i := 41) rfl)))))))
set_option maxRecDepth 100000 in
theorem w_642 : (.fieldLink RX4 161 "OldestFirst$Town" "master" "[I" : Cond) ∈ ALLW := List.mem_append_right _ (List.mem_append_right _ (List.mem_append_right _ (List.mem_append_right _ (List.mem_append_right _ (List.mem_append_right _ (List.mem_append_left _ (List.mem_of_getElem? (i := 42) rfl)))))))
set_option maxRecDepth 100000 in
theorem w_643 : (.fieldLink RX4 164 "OldestFirst$Diary" "idle" "[I" : Cond) ∈ ALLW := List.mem_append_right _ (List.mem_append_right _ (List.mem_append_right _ (List.mem_append_right _ (List.mem_append_right _ (List.mem_append_right _ (List.mem_append_left _ (List.mem_of_getElem? (i := 43) rfl)))))))
set_option maxRecDepth 100000 in
theorem w_644 : (.fieldLink RX4 169 "OldestFirst$Diary" "waits" "[I" : Cond) ∈ ALLW := List.mem_append_right _ (List.mem_append_right _ (List.mem_append_right _ (List.mem_append_right _ (List.mem_append_right _ (List.mem_append_right _ (List.mem_append_left _ (List.mem_of_getElem? (i := 44) rfl)))))))
set_option maxRecDepth 100000 in
theorem w_645 : (.methodLink RX4 151 yX2_hoursOf : Cond) ∈ ALLW := List.mem_append_right _ (List.mem_append_right _ (List.mem_append_right _ (List.mem_append_right _ (List.mem_append_right _ (List.mem_append_right _ (List.mem_append_left _ (List.mem_of_getElem? (i := 45) rfl)))))))
set_option maxRecDepth 100000 in
theorem w_646 : (.instanceMethod yX2_hoursOf : Cond) ∈ ALLW := List.mem_append_right _ (List.mem_append_right _ (List.mem_append_right _ (List.mem_append_right _ (List.mem_append_right _ (List.mem_append_right _ (List.mem_append_left _ (List.mem_of_getElem? (i := 46) rfl)))))))
set_option maxRecDepth 100000 in
theorem w_647 : (.selects RX2 yX2_hoursOf yX2_hoursOf : Cond) ∈ ALLW := List.mem_append_right _ (List.mem_append_right _ (List.mem_append_right _ (List.mem_append_right _ (List.mem_append_right _ (List.mem_append_right _ (List.mem_append_left _ (List.mem_of_getElem? (i := 47) rfl)))))))
set_option maxRecDepth 100000 in
theorem w_648 : (.code yX2_hoursOf cX2_hoursOf 3 (some .int) : Cond) ∈ ALLW := List.mem_append_right _ (List.mem_append_right _ (List.mem_append_right _ (List.mem_append_right _ (List.mem_append_right _ (List.mem_append_right _ (List.mem_append_left _ (List.mem_of_getElem? (i := 48) rfl)))))))
set_option maxRecDepth 100000 in
theorem w_649 : (.fieldLink RX2 54 "OldestFirst$Town" "kind" "[I" : Cond) ∈ ALLW := List.mem_append_right _ (List.mem_append_right _ (List.mem_append_right _ (List.mem_append_right _ (List.mem_append_right _ (List.mem_append_right _ (List.mem_append_left _ (List.mem_of_getElem? (i := 49) rfl)))))))
set_option maxRecDepth 100000 in
theorem w_650 : (.fieldLink RX2 42 "OldestFirst$Town" "from" "[I" : Cond) ∈ ALLW := List.mem_append_right _ (List.mem_append_right _ (List.mem_append_right _ (List.mem_append_right _ (List.mem_append_right _ (List.mem_append_right _ (List.mem_append_left _ (List.mem_of_getElem? (i := 50) rfl)))))))
set_option maxRecDepth 100000 in
theorem w_651 : (.fieldLink RX2 57 "OldestFirst$Town" "hours" "[I" : Cond) ∈ ALLW := List.mem_append_right _ (List.mem_append_right _ (List.mem_append_right _ (List.mem_append_right _ (List.mem_append_right _ (List.mem_append_right _ (List.mem_append_left _ (List.mem_of_getElem? (i := 51) rfl)))))))
set_option maxRecDepth 100000 in
theorem w_652 : (.methodLink RX2 60 Lib.Math.max.name : Cond) ∈ ALLW := List.mem_append_right _ (List.mem_append_right _ (List.mem_append_right _ (List.mem_append_right _ (List.mem_append_right _ (List.mem_append_right _ (List.mem_append_left _ (List.mem_of_getElem? (i := 52) rfl)))))))
set_option maxRecDepth 100000 in
theorem w_653 : (.static Lib.Math.max.name : Cond) ∈ ALLW := List.mem_append_right _ (List.mem_append_right _ (List.mem_append_right _ (List.mem_append_right _ (List.mem_append_right _ (List.mem_append_right _ (List.mem_append_left _ (List.mem_of_getElem? (i := 53) rfl)))))))
set_option maxRecDepth 100000 in
theorem w_654 : (.code Lib.Math.max.name Lib.Math.max.code 2 (some .int) : Cond) ∈ ALLW := List.mem_append_right _ (List.mem_append_right _ (List.mem_append_right _ (List.mem_append_right _ (List.mem_append_right _ (List.mem_append_right _ (List.mem_append_left _ (List.mem_of_getElem? (i := 54) rfl)))))))
set_option maxRecDepth 100000 in
theorem w_655 : (.methodLink RX4 154 yX4_workOn : Cond) ∈ ALLW := List.mem_append_right _ (List.mem_append_right _ (List.mem_append_right _ (List.mem_append_right _ (List.mem_append_right _ (List.mem_append_right _ (List.mem_append_left _ (List.mem_of_getElem? (i := 55) rfl)))))))
set_option maxRecDepth 100000 in
theorem w_656 : (.instanceMethod yX4_workOn : Cond) ∈ ALLW := List.mem_append_right _ (List.mem_append_right _ (List.mem_append_right _ (List.mem_append_right _ (List.mem_append_right _ (List.mem_append_right _ (List.mem_append_left _ (List.mem_of_getElem? (i := 56) rfl)))))))
set_option maxRecDepth 100000 in
theorem w_657 : (.selects RX4 yX4_workOn yX4_workOn : Cond) ∈ ALLW := List.mem_append_right _ (List.mem_append_right _ (List.mem_append_right _ (List.mem_append_right _ (List.mem_append_right _ (List.mem_append_right _ (List.mem_append_left _ (List.mem_of_getElem? (i := 57) rfl)))))))
set_option maxRecDepth 100000 in
theorem w_658 : (.code yX4_workOn cX4_workOn 11 (some .int) : Cond) ∈ ALLW := List.mem_append_right _ (List.mem_append_right _ (List.mem_append_right _ (List.mem_append_right _ (List.mem_append_right _ (List.mem_append_right _ (List.mem_append_left _ (List.mem_of_getElem? (i := 58) rfl)))))))
set_option maxRecDepth 100000 in
theorem w_659 : (.fieldLink RX4 172 "OldestFirst$Town" "law" "I" : Cond) ∈ ALLW := List.mem_append_right _ (List.mem_append_right _ (List.mem_append_right _ (List.mem_append_right _ (List.mem_append_right _ (List.mem_append_right _ (List.mem_append_left _ (List.mem_of_getElem? (i := 59) rfl)))))))
set_option maxRecDepth 100000 in
theorem w_660 : (.fieldLink RX4 178 "OldestFirst$Town" "after" "[I" : Cond) ∈ ALLW := List.mem_append_right _ (List.mem_append_right _ (List.mem_append_right _ (List.mem_append_right _ (List.mem_append_right _ (List.mem_append_right _ (List.mem_append_left _ (List.mem_of_getElem? (i := 60) rfl)))))))
set_option maxRecDepth 100000 in
theorem w_661 : (.methodLink RX4 181 Lib.Math.min.name : Cond) ∈ ALLW := List.mem_append_right _ (List.mem_append_right _ (List.mem_append_right _ (List.mem_append_right _ (List.mem_append_right _ (List.mem_append_right _ (List.mem_append_left _ (List.mem_of_getElem? (i := 61) rfl)))))))
set_option maxRecDepth 100000 in
theorem w_662 : (.fieldLink RX4 186 "OldestFirst$Town" "post" "I" : Cond) ∈ ALLW := List.mem_append_right _ (List.mem_append_right _ (List.mem_append_right _ (List.mem_append_right _ (List.mem_append_right _ (List.mem_append_right _ (List.mem_append_left _ (List.mem_of_getElem? (i := 62) rfl)))))))
set_option maxRecDepth 100000 in
theorem w_663 : (.methodLink RX4 175 yX4_draw : Cond) ∈ ALLW := List.mem_append_right _ (List.mem_append_right _ (List.mem_append_right _ (List.mem_append_right _ (List.mem_append_right _ (List.mem_append_right _ (List.mem_append_left _ (List.mem_of_getElem? (i := 63) rfl)))))))
set_option maxRecDepth 100000 in
theorem w_664 : (.instanceMethod yX4_draw : Cond) ∈ ALLW := List.mem_append_right _ (List.mem_append_right _ (List.mem_append_right _ (List.mem_append_right _ (List.mem_append_right _ (List.mem_append_right _ (List.mem_append_left _ (List.mem_of_getElem? (i := 64) rfl)))))))
set_option maxRecDepth 100000 in
theorem w_665 : (.selects RX4 yX4_draw yX4_draw : Cond) ∈ ALLW := List.mem_append_right _ (List.mem_append_right _ (List.mem_append_right _ (List.mem_append_right _ (List.mem_append_right _ (List.mem_append_right _ (List.mem_append_left _ (List.mem_of_getElem? (i := 65) rfl)))))))
set_option maxRecDepth 100000 in
theorem w_666 : (.code yX4_draw cX4_draw 2 (some .int) : Cond) ∈ ALLW := List.mem_append_right _ (List.mem_append_right _ (List.mem_append_right _ (List.mem_append_right _ (List.mem_append_right _ (List.mem_append_right _ (List.mem_append_left _ (List.mem_of_getElem? (i := 66) rfl)))))))
set_option maxRecDepth 100000 in
theorem w_667 : (.constantLong RX4 195 (1103515245) : Cond) ∈ ALLW := List.mem_append_right _ (List.mem_append_right _ (List.mem_append_right _ (List.mem_append_right _ (List.mem_append_right _ (List.mem_append_right _ (List.mem_append_left _ (List.mem_of_getElem? (i := 67) rfl)))))))
set_option maxRecDepth 100000 in
theorem w_668 : (.constantLong RX4 197 (12345) : Cond) ∈ ALLW := List.mem_append_right _ (List.mem_append_right _ (List.mem_append_right _ (List.mem_append_right _ (List.mem_append_right _ (List.mem_append_right _ (List.mem_append_left _ (List.mem_of_getElem? (i := 68) rfl)))))))
set_option maxRecDepth 100000 in
theorem w_669 : (.constantLong RX4 199 (2147483647) : Cond) ∈ ALLW := List.mem_append_right _ (List.mem_append_right _ (List.mem_append_right _ (List.mem_append_right _ (List.mem_append_right _ (List.mem_append_right _ (List.mem_append_left _ (List.mem_of_getElem? (i := 69) rfl)))))))
set_option maxRecDepth 100000 in
theorem w_670 : (.constantLong RX4 201 (65536) : Cond) ∈ ALLW := List.mem_append_right _ (List.mem_append_right _ (List.mem_append_right _ (List.mem_append_right _ (List.mem_append_right _ (List.mem_append_right _ (List.mem_append_left _ (List.mem_of_getElem? (i := 70) rfl)))))))
set_option maxRecDepth 100000 in
theorem w_671 : (.methodLink RX4 102 yX4_noteDay : Cond) ∈ ALLW := List.mem_append_right _ (List.mem_append_right _ (List.mem_append_right _ (List.mem_append_right _ (List.mem_append_right _ (List.mem_append_right _ (List.mem_append_left _ (List.mem_of_getElem? (i := 71) rfl)))))))
set_option maxRecDepth 100000 in
theorem w_672 : (.instanceMethod yX4_noteDay : Cond) ∈ ALLW := List.mem_append_right _ (List.mem_append_right _ (List.mem_append_right _ (List.mem_append_right _ (List.mem_append_right _ (List.mem_append_right _ (List.mem_append_left _ (List.mem_of_getElem? (i := 72) rfl)))))))
set_option maxRecDepth 100000 in
theorem w_673 : (.selects RX4 yX4_noteDay yX4_noteDay : Cond) ∈ ALLW := List.mem_append_right _ (List.mem_append_right _ (List.mem_append_right _ (List.mem_append_right _ (List.mem_append_right _ (List.mem_append_right _ (List.mem_append_left _ (List.mem_of_getElem? (i := 73) rfl)))))))
set_option maxRecDepth 100000 in
theorem w_674 : (.code yX4_noteDay cX4_noteDay 6 none : Cond) ∈ ALLW := List.mem_append_right _ (List.mem_append_right _ (List.mem_append_right _ (List.mem_append_right _ (List.mem_append_right _ (List.mem_append_right _ (List.mem_append_left _ (List.mem_of_getElem? (i := 74) rfl)))))))
set_option maxRecDepth 100000 in
theorem w_675 : (.fieldLink RX4 203 "OldestFirst$Diary" "needs" "[I" : Cond) ∈ ALLW := List.mem_append_right _ (List.mem_append_right _ (List.mem_append_right _ (List.mem_append_right _ (List.mem_append_right _ (List.mem_append_right _ (List.mem_append_left _ (List.mem_of_getElem? (i := 75) rfl)))))))
set_option maxRecDepth 100000 in
theorem w_676 : (.fieldLink RX4 206 "OldestFirst$Diary" "piles" "[J" : Cond) ∈ ALLW := List.mem_append_right _ (List.mem_append_right _ (List.mem_append_right _ (List.mem_append_right _ (List.mem_append_right _ (List.mem_append_right _ (List.mem_append_left _ (List.mem_of_getElem? (i := 76) rfl)))))))
set_option maxRecDepth 100000 in
theorem w_677 : (.methodLink RL 40 yX9_letter : Cond) ∈ ALLW := List.mem_append_right _ (List.mem_append_right _ (List.mem_append_right _ (List.mem_append_right _ (List.mem_append_right _ (List.mem_append_right _ (List.mem_append_left _ (List.mem_of_getElem? (i := 77) rfl)))))))
set_option maxRecDepth 100000 in
theorem w_678 : (.instanceMethod yX9_letter : Cond) ∈ ALLW := List.mem_append_right _ (List.mem_append_right _ (List.mem_append_right _ (List.mem_append_right _ (List.mem_append_right _ (List.mem_append_right _ (List.mem_append_left _ (List.mem_of_getElem? (i := 78) rfl)))))))
set_option maxRecDepth 100000 in
theorem w_679 : (.selects RX9 yX9_letter yX9_letter : Cond) ∈ ALLW := List.mem_append_right _ (List.mem_append_right _ (List.mem_append_right _ (List.mem_append_right _ (List.mem_append_right _ (List.mem_append_right _ (List.mem_append_left _ (List.mem_of_getElem? (i := 79) rfl)))))))
set_option maxRecDepth 100000 in
theorem w_680 : (.code yX9_letter cX9_letter 3 (some .int) : Cond) ∈ ALLW := List.mem_append_right _ (List.mem_append_right _ (List.mem_append_right _ (List.mem_append_right _ (List.mem_append_right _ (List.mem_append_right _ (List.mem_append_left _ (List.mem_of_getElem? (i := 80) rfl)))))))
set_option maxRecDepth 100000 in
theorem w_681 : (.constantLong RX9 402 (7) : Cond) ∈ ALLW := List.mem_append_right _ (List.mem_append_right _ (List.mem_append_right _ (List.mem_append_right _ (List.mem_append_right _ (List.mem_append_right _ (List.mem_append_left _ (List.mem_of_getElem? (i := 81) rfl)))))))
set_option maxRecDepth 100000 in
theorem w_682 : (.methodLink RX9 399 yX9_isLetter : Cond) ∈ ALLW := List.mem_append_right _ (List.mem_append_right _ (List.mem_append_right _ (List.mem_append_right _ (List.mem_append_right _ (List.mem_append_right _ (List.mem_append_left _ (List.mem_of_getElem? (i := 82) rfl)))))))
set_option maxRecDepth 100000 in
theorem w_683 : (.instanceMethod yX9_isLetter : Cond) ∈ ALLW := List.mem_append_right _ (List.mem_append_right _ (List.mem_append_right _ (List.mem_append_right _ (List.mem_append_right _ (List.mem_append_right _ (List.mem_append_left _ (List.mem_of_getElem? (i := 83) rfl)))))))
set_option maxRecDepth 100000 in
theorem w_684 : (.selects RX9 yX9_isLetter yX9_isLetter : Cond) ∈ ALLW := List.mem_append_right _ (List.mem_append_right _ (List.mem_append_right _ (List.mem_append_right _ (List.mem_append_right _ (List.mem_append_right _ (List.mem_append_left _ (List.mem_of_getElem? (i := 84) rfl)))))))
set_option maxRecDepth 100000 in
theorem w_685 : (.code yX9_isLetter cX9_isLetter 2 (some .boolean) : Cond) ∈ ALLW := List.mem_append_right _ (List.mem_append_right _ (List.mem_append_right _ (List.mem_append_right _ (List.mem_append_right _ (List.mem_append_right _ (List.mem_append_left _ (List.mem_of_getElem? (i := 85) rfl)))))))
set_option maxRecDepth 100000 in
theorem w_686 : (.methodLink RX9 270 yX9_isTold : Cond) ∈ ALLW := List.mem_append_right _ (List.mem_append_right _ (List.mem_append_right _ (List.mem_append_right _ (List.mem_append_right _ (List.mem_append_right _ (List.mem_append_left _ (List.mem_of_getElem? (i := 86) rfl)))))))
set_option maxRecDepth 100000 in
theorem w_687 : (.instanceMethod yX9_isTold : Cond) ∈ ALLW := List.mem_append_right _ (List.mem_append_right _ (List.mem_append_right _ (List.mem_append_right _ (List.mem_append_right _ (List.mem_append_right _ (List.mem_append_left _ (List.mem_of_getElem? (i := 87) rfl)))))))
set_option maxRecDepth 100000 in
theorem w_688 : (.selects RX9 yX9_isTold yX9_isTold : Cond) ∈ ALLW := List.mem_append_right _ (List.mem_append_right _ (List.mem_append_right _ (List.mem_append_right _ (List.mem_append_right _ (List.mem_append_right _ (List.mem_append_left _ (List.mem_of_getElem? (i := 88) rfl)))))))
set_option maxRecDepth 100000 in
theorem w_689 : (.code yX9_isTold cX9_isTold 2 (some .boolean) : Cond) ∈ ALLW := List.mem_append_right _ (List.mem_append_right _ (List.mem_append_right _ (List.mem_append_right _ (List.mem_append_right _ (List.mem_append_right _ (List.mem_append_left _ (List.mem_of_getElem? (i := 89) rfl)))))))
set_option maxRecDepth 100000 in
theorem w_690 : (.methodLink RX9 404 yX9_asTold : Cond) ∈ ALLW := List.mem_append_right _ (List.mem_append_right _ (List.mem_append_right _ (List.mem_append_right _ (List.mem_append_right _ (List.mem_append_right _ (List.mem_append_left _ (List.mem_of_getElem? (i := 90) rfl)))))))
set_option maxRecDepth 100000 in
theorem w_691 : (.instanceMethod yX9_asTold : Cond) ∈ ALLW := List.mem_append_right _ (List.mem_append_right _ (List.mem_append_right _ (List.mem_append_right _ (List.mem_append_right _ (List.mem_append_right _ (List.mem_append_left _ (List.mem_of_getElem? (i := 91) rfl)))))))
set_option maxRecDepth 100000 in
theorem w_692 : (.selects RX9 yX9_asTold yX9_asTold : Cond) ∈ ALLW := List.mem_append_right _ (List.mem_append_right _ (List.mem_append_right _ (List.mem_append_right _ (List.mem_append_right _ (List.mem_append_right _ (List.mem_append_left _ (List.mem_of_getElem? (i := 92) rfl)))))))
set_option maxRecDepth 100000 in
theorem w_693 : (.code yX9_asTold cX9_asTold 1 none : Cond) ∈ ALLW := List.mem_append_right _ (List.mem_append_right _ (List.mem_append_right _ (List.mem_append_right _ (List.mem_append_right _ (List.mem_append_right _ (List.mem_append_left _ (List.mem_of_getElem? (i := 93) rfl)))))))
set_option maxRecDepth 100000 in
theorem w_694 : (.methodLink RX9 393 yX9_plainly : Cond) ∈ ALLW := List.mem_append_right _ (List.mem_append_right _ (List.mem_append_right _ (List.mem_append_right _ (List.mem_append_right _ (List.mem_append_right _ (List.mem_append_left _ (List.mem_of_getElem? (i := 94) rfl)))))))
set_option maxRecDepth 100000 in
theorem w_695 : (.instanceMethod yX9_plainly : Cond) ∈ ALLW := List.mem_append_right _ (List.mem_append_right _ (List.mem_append_right _ (List.mem_append_right _ (List.mem_append_right _ (List.mem_append_right _ (List.mem_append_left _ (List.mem_of_getElem? (i := 95) rfl)))))))
set_option maxRecDepth 100000 in
theorem w_696 : (.selects RX9 yX9_plainly yX9_plainly : Cond) ∈ ALLW := List.mem_append_right _ (List.mem_append_right _ (List.mem_append_right _ (List.mem_append_right _ (List.mem_append_right _ (List.mem_append_right _ (List.mem_append_left _ (List.mem_of_getElem? (i := 96) rfl)))))))
set_option maxRecDepth 100000 in
theorem w_697 : (.code yX9_plainly cX9_plainly 2 none : Cond) ∈ ALLW := List.mem_append_right _ (List.mem_append_right _ (List.mem_append_right _ (List.mem_append_right _ (List.mem_append_right _ (List.mem_append_right _ (List.mem_append_left _ (List.mem_of_getElem? (i := 97) rfl)))))))
set_option maxRecDepth 100000 in
theorem w_698 : (.fieldLink RX9 298 "OldestFirstModel" "lawNow" "I" : Cond) ∈ ALLW := List.mem_append_right _ (List.mem_append_right _ (List.mem_append_right _ (List.mem_append_right _ (List.mem_append_right _ (List.mem_append_right _ (List.mem_append_left _ (List.mem_of_getElem? (i := 98) rfl)))))))
set_option maxRecDepth 100000 in
theorem w_699 : (.fieldLink RX9 301 "OldestFirstModel" "x" "J" : Cond) ∈ ALLW := List.mem_append_right _ (List.mem_append_right _ (List.mem_append_right _ (List.mem_append_right _ (List.mem_append_right _ (List.mem_append_right _ (List.mem_append_left _ (List.mem_of_getElem? (i := 99) rfl)))))))
set_option maxRecDepth 100000 in
theorem w_700 : (.fieldLink RX9 304 "OldestFirstModel" "without" "I" : Cond) ∈ ALLW := List.mem_append_right _ (List.mem_append_right _ (List.mem_append_right _ (List.mem_append_right _ (List.mem_append_right _ (List.mem_append_right _ (List.mem_append_right _ (List.mem_append_left _ (List.mem_of_getElem? (i := 0) rfl))))))))
set_option maxRecDepth 100000 in
theorem w_701 : (.fieldLink RX9 307 "OldestFirstModel" "visited" "I" : Cond) ∈ ALLW := List.mem_append_right _ (List.mem_append_right _ (List.mem_append_right _ (List.mem_append_right _ (List.mem_append_right _ (List.mem_append_right _ (List.mem_append_right _ (List.mem_append_left _ (List.mem_of_getElem? (i := 1) rfl))))))))
set_option maxRecDepth 100000 in
theorem w_702 : (.fieldLink RX9 310 "OldestFirstModel" "burner" "I" : Cond) ∈ ALLW := List.mem_append_right _ (List.mem_append_right _ (List.mem_append_right _ (List.mem_append_right _ (List.mem_append_right _ (List.mem_append_right _ (List.mem_append_right _ (List.mem_append_left _ (List.mem_of_getElem? (i := 2) rfl))))))))
set_option maxRecDepth 100000 in
theorem w_703 : (.fieldLink RX9 313 "OldestFirstModel" "hasMore" "Z" : Cond) ∈ ALLW := List.mem_append_right _ (List.mem_append_right _ (List.mem_append_right _ (List.mem_append_right _ (List.mem_append_right _ (List.mem_append_right _ (List.mem_append_right _ (List.mem_append_left _ (List.mem_of_getElem? (i := 3) rfl))))))))
set_option maxRecDepth 100000 in
theorem w_704 : (.methodLink RX9 396 yX9_goes : Cond) ∈ ALLW := List.mem_append_right _ (List.mem_append_right _ (List.mem_append_right _ (List.mem_append_right _ (List.mem_append_right _ (List.mem_append_right _ (List.mem_append_right _ (List.mem_append_left _ (List.mem_of_getElem? (i := 4) rfl))))))))
set_option maxRecDepth 100000 in
theorem w_705 : (.instanceMethod yX9_goes : Cond) ∈ ALLW := List.mem_append_right _ (List.mem_append_right _ (List.mem_append_right _ (List.mem_append_right _ (List.mem_append_right _ (List.mem_append_right _ (List.mem_append_right _ (List.mem_append_left _ (List.mem_of_getElem? (i := 5) rfl))))))))
set_option maxRecDepth 100000 in
theorem w_706 : (.selects RX9 yX9_goes yX9_goes : Cond) ∈ ALLW := List.mem_append_right _ (List.mem_append_right _ (List.mem_append_right _ (List.mem_append_right _ (List.mem_append_right _ (List.mem_append_right _ (List.mem_append_right _ (List.mem_append_left _ (List.mem_of_getElem? (i := 6) rfl))))))))
set_option maxRecDepth 100000 in
theorem w_707 : (.code yX9_goes cX9_goes 4 none : Cond) ∈ ALLW := List.mem_append_right _ (List.mem_append_right _ (List.mem_append_right _ (List.mem_append_right _ (List.mem_append_right _ (List.mem_append_right _ (List.mem_append_right _ (List.mem_append_left _ (List.mem_of_getElem? (i := 7) rfl))))))))
set_option maxRecDepth 100000 in
theorem w_708 : (.fieldLink RX9 347 "OldestFirstModel" "rowMany" "I" : Cond) ∈ ALLW := List.mem_append_right _ (List.mem_append_right _ (List.mem_append_right _ (List.mem_append_right _ (List.mem_append_right _ (List.mem_append_right _ (List.mem_append_right _ (List.mem_append_left _ (List.mem_of_getElem? (i := 8) rfl))))))))
set_option maxRecDepth 100000 in
theorem w_709 : (.fieldLink RX9 356 "OldestFirstModel" "isSilent" "Z" : Cond) ∈ ALLW := List.mem_append_right _ (List.mem_append_right _ (List.mem_append_right _ (List.mem_append_right _ (List.mem_append_right _ (List.mem_append_right _ (List.mem_append_right _ (List.mem_append_left _ (List.mem_of_getElem? (i := 9) rfl))))))))
set_option maxRecDepth 100000 in
theorem w_710 : (.fieldLink RX9 368 "OldestFirstModel" "still" "I" : Cond) ∈ ALLW := List.mem_append_right _ (List.mem_append_right _ (List.mem_append_right _ (List.mem_append_right _ (List.mem_append_right _ (List.mem_append_right _ (List.mem_append_right _ (List.mem_append_left _ (List.mem_of_getElem? (i := 10) rfl))))))))
set_option maxRecDepth 100000 in
theorem w_711 : (.methodLink RX9 383 yX9_morning : Cond) ∈ ALLW := List.mem_append_right _ (List.mem_append_right _ (List.mem_append_right _ (List.mem_append_right _ (List.mem_append_right _ (List.mem_append_right _ (List.mem_append_right _ (List.mem_append_left _ (List.mem_of_getElem? (i := 11) rfl))))))))
set_option maxRecDepth 100000 in
theorem w_712 : (.instanceMethod yX9_morning : Cond) ∈ ALLW := List.mem_append_right _ (List.mem_append_right _ (List.mem_append_right _ (List.mem_append_right _ (List.mem_append_right _ (List.mem_append_right _ (List.mem_append_right _ (List.mem_append_left _ (List.mem_of_getElem? (i := 12) rfl))))))))
set_option maxRecDepth 100000 in
theorem w_713 : (.selects RX9 yX9_morning yX9_morning : Cond) ∈ ALLW := List.mem_append_right _ (List.mem_append_right _ (List.mem_append_right _ (List.mem_append_right _ (List.mem_append_right _ (List.mem_append_right _ (List.mem_append_right _ (List.mem_append_left _ (List.mem_of_getElem? (i := 13) rfl))))))))
set_option maxRecDepth 100000 in
theorem w_714 : (.code yX9_morning cX9_morning 3 none : Cond) ∈ ALLW := List.mem_append_right _ (List.mem_append_right _ (List.mem_append_right _ (List.mem_append_right _ (List.mem_append_right _ (List.mem_append_right _ (List.mem_append_right _ (List.mem_append_left _ (List.mem_of_getElem? (i := 14) rfl))))))))
set_option maxRecDepth 100000 in
theorem w_715 : (.fieldLink RX9 350 "OldestFirstModel" "burnDay" "I" : Cond) ∈ ALLW := List.mem_append_right _ (List.mem_append_right _ (List.mem_append_right _ (List.mem_append_right _ (List.mem_append_right _ (List.mem_append_right _ (List.mem_append_right _ (List.mem_append_left _ (List.mem_of_getElem? (i := 15) rfl))))))))
set_option maxRecDepth 100000 in
theorem w_716 : (.fieldLink RX9 359 "OldestFirstModel" "visitDay" "I" : Cond) ∈ ALLW := List.mem_append_right _ (List.mem_append_right _ (List.mem_append_right _ (List.mem_append_right _ (List.mem_append_right _ (List.mem_append_right _ (List.mem_append_right _ (List.mem_append_left _ (List.mem_of_getElem? (i := 16) rfl))))))))
set_option maxRecDepth 100000 in
theorem w_717 : (.methodLink RX9 316 yX9_isOnPile : Cond) ∈ ALLW := List.mem_append_right _ (List.mem_append_right _ (List.mem_append_right _ (List.mem_append_right _ (List.mem_append_right _ (List.mem_append_right _ (List.mem_append_right _ (List.mem_append_left _ (List.mem_of_getElem? (i := 17) rfl))))))))
set_option maxRecDepth 100000 in
theorem w_718 : (.instanceMethod yX9_isOnPile : Cond) ∈ ALLW := List.mem_append_right _ (List.mem_append_right _ (List.mem_append_right _ (List.mem_append_right _ (List.mem_append_right _ (List.mem_append_right _ (List.mem_append_right _ (List.mem_append_left _ (List.mem_of_getElem? (i := 18) rfl))))))))
set_option maxRecDepth 100000 in
theorem w_719 : (.selects RX9 yX9_isOnPile yX9_isOnPile : Cond) ∈ ALLW := List.mem_append_right _ (List.mem_append_right _ (List.mem_append_right _ (List.mem_append_right _ (List.mem_append_right _ (List.mem_append_right _ (List.mem_append_right _ (List.mem_append_left _ (List.mem_of_getElem? (i := 19) rfl))))))))
set_option maxRecDepth 100000 in
theorem w_720 : (.code yX9_isOnPile cX9_isOnPile 4 (some .boolean) : Cond) ∈ ALLW := List.mem_append_right _ (List.mem_append_right _ (List.mem_append_right _ (List.mem_append_right _ (List.mem_append_right _ (List.mem_append_right _ (List.mem_append_right _ (List.mem_append_left _ (List.mem_of_getElem? (i := 20) rfl))))))))
set_option maxRecDepth 100000 in
theorem w_721 : (.methodLink RX9 279 yX9_toOf : Cond) ∈ ALLW := List.mem_append_right _ (List.mem_append_right _ (List.mem_append_right _ (List.mem_append_right _ (List.mem_append_right _ (List.mem_append_right _ (List.mem_append_right _ (List.mem_append_left _ (List.mem_of_getElem? (i := 21) rfl))))))))
set_option maxRecDepth 100000 in
theorem w_722 : (.instanceMethod yX9_toOf : Cond) ∈ ALLW := List.mem_append_right _ (List.mem_append_right _ (List.mem_append_right _ (List.mem_append_right _ (List.mem_append_right _ (List.mem_append_right _ (List.mem_append_right _ (List.mem_append_left _ (List.mem_of_getElem? (i := 22) rfl))))))))
set_option maxRecDepth 100000 in
theorem w_723 : (.selects RX9 yX9_toOf yX9_toOf : Cond) ∈ ALLW := List.mem_append_right _ (List.mem_append_right _ (List.mem_append_right _ (List.mem_append_right _ (List.mem_append_right _ (List.mem_append_right _ (List.mem_append_right _ (List.mem_append_left _ (List.mem_of_getElem? (i := 23) rfl))))))))
set_option maxRecDepth 100000 in
theorem w_724 : (.code yX9_toOf cX9_toOf 2 (some .int) : Cond) ∈ ALLW := List.mem_append_right _ (List.mem_append_right _ (List.mem_append_right _ (List.mem_append_right _ (List.mem_append_right _ (List.mem_append_right _ (List.mem_append_right _ (List.mem_append_left _ (List.mem_of_getElem? (i := 24) rfl))))))))
set_option maxRecDepth 100000 in
theorem w_725 : (.methodLink RX9 273 yX9_isMore : Cond) ∈ ALLW := List.mem_append_right _ (List.mem_append_right _ (List.mem_append_right _ (List.mem_append_right _ (List.mem_append_right _ (List.mem_append_right _ (List.mem_append_right _ (List.mem_append_left _ (List.mem_of_getElem? (i := 25) rfl))))))))
set_option maxRecDepth 100000 in
theorem w_726 : (.instanceMethod yX9_isMore : Cond) ∈ ALLW := List.mem_append_right _ (List.mem_append_right _ (List.mem_append_right _ (List.mem_append_right _ (List.mem_append_right _ (List.mem_append_right _ (List.mem_append_right _ (List.mem_append_left _ (List.mem_of_getElem? (i := 26) rfl))))))))
set_option maxRecDepth 100000 in
theorem w_727 : (.selects RX9 yX9_isMore yX9_isMore : Cond) ∈ ALLW := List.mem_append_right _ (List.mem_append_right _ (List.mem_append_right _ (List.mem_append_right _ (List.mem_append_right _ (List.mem_append_right _ (List.mem_append_right _ (List.mem_append_left _ (List.mem_of_getElem? (i := 27) rfl))))))))
set_option maxRecDepth 100000 in
theorem w_728 : (.code yX9_isMore cX9_isMore 2 (some .boolean) : Cond) ∈ ALLW := List.mem_append_right _ (List.mem_append_right _ (List.mem_append_right _ (List.mem_append_right _ (List.mem_append_right _ (List.mem_append_right _ (List.mem_append_right _ (List.mem_append_left _ (List.mem_of_getElem? (i := 28) rfl))))))))
set_option maxRecDepth 100000 in
theorem w_729 : (.methodLink RX9 353 yX9_comes : Cond) ∈ ALLW := List.mem_append_right _ (List.mem_append_right _ (List.mem_append_right _ (List.mem_append_right _ (List.mem_append_right _ (List.mem_append_right _ (List.mem_append_right _ (List.mem_append_left _ (List.mem_of_getElem? (i := 29) rfl))))))))
set_option maxRecDepth 100000 in
theorem w_730 : (.instanceMethod yX9_comes : Cond) ∈ ALLW := List.mem_append_right _ (List.mem_append_right _ (List.mem_append_right _ (List.mem_append_right _ (List.mem_append_right _ (List.mem_append_right _ (List.mem_append_right _ (List.mem_append_left _ (List.mem_of_getElem? (i := 30) rfl))))))))
set_option maxRecDepth 100000 in
theorem w_731 : (.selects RX9 yX9_comes yX9_comes : Cond) ∈ ALLW := List.mem_append_right _ (List.mem_append_right _ (List.mem_append_right _ (List.mem_append_right _ (List.mem_append_right _ (List.mem_append_right _ (List.mem_append_right _ (List.mem_append_left _ (List.mem_of_getElem? (i := 31) rfl))))))))
set_option maxRecDepth 100000 in
theorem w_732 : (.code yX9_comes cX9_comes 3 none : Cond) ∈ ALLW := List.mem_append_right _ (List.mem_append_right _ (List.mem_append_right _ (List.mem_append_right _ (List.mem_append_right _ (List.mem_append_right _ (List.mem_append_right _ (List.mem_append_left _ (List.mem_of_getElem? (i := 32) rfl))))))))
set_option maxRecDepth 100000 in
theorem w_733 : (.methodLink RX9 337 yX9_needsAtAll : Cond) ∈ ALLW := List.mem_append_right _ (List.mem_append_right _ (List.mem_append_right _ (List.mem_append_right _ (List.mem_append_right _ (List.mem_append_right _ (List.mem_append_right _ (List.mem_append_left _ (List.mem_of_getElem? (i := 33) rfl))))))))
set_option maxRecDepth 100000 in
theorem w_734 : (.instanceMethod yX9_needsAtAll : Cond) ∈ ALLW := List.mem_append_right _ (List.mem_append_right _ (List.mem_append_right _ (List.mem_append_right _ (List.mem_append_right _ (List.mem_append_right _ (List.mem_append_right _ (List.mem_append_left _ (List.mem_of_getElem? (i := 34) rfl))))))))
set_option maxRecDepth 100000 in
theorem w_735 : (.selects RX9 yX9_needsAtAll yX9_needsAtAll : Cond) ∈ ALLW := List.mem_append_right _ (List.mem_append_right _ (List.mem_append_right _ (List.mem_append_right _ (List.mem_append_right _ (List.mem_append_right _ (List.mem_append_right _ (List.mem_append_left _ (List.mem_of_getElem? (i := 35) rfl))))))))
set_option maxRecDepth 100000 in
theorem w_736 : (.code yX9_needsAtAll cX9_needsAtAll 4 (some .int) : Cond) ∈ ALLW := List.mem_append_right _ (List.mem_append_right _ (List.mem_append_right _ (List.mem_append_right _ (List.mem_append_right _ (List.mem_append_right _ (List.mem_append_right _ (List.mem_append_left _ (List.mem_of_getElem? (i := 36) rfl))))))))
set_option maxRecDepth 100000 in
theorem w_737 : (.methodLink RX9 276 yX9_hoursOf : Cond) ∈ ALLW := List.mem_append_right _ (List.mem_append_right _ (List.mem_append_right _ (List.mem_append_right _ (List.mem_append_right _ (List.mem_append_right _ (List.mem_append_right _ (List.mem_append_left _ (List.mem_of_getElem? (i := 37) rfl))))))))
set_option maxRecDepth 100000 in
theorem w_738 : (.instanceMethod yX9_hoursOf : Cond) ∈ ALLW := List.mem_append_right _ (List.mem_append_right _ (List.mem_append_right _ (List.mem_append_right _ (List.mem_append_right _ (List.mem_append_right _ (List.mem_append_right _ (List.mem_append_left _ (List.mem_of_getElem? (i := 38) rfl))))))))
set_option maxRecDepth 100000 in
theorem w_739 : (.selects RX9 yX9_hoursOf yX9_hoursOf : Cond) ∈ ALLW := List.mem_append_right _ (List.mem_append_right _ (List.mem_append_right _ (List.mem_append_right _ (List.mem_append_right _ (List.mem_append_right _ (List.mem_append_right _ (List.mem_append_left _ (List.mem_of_getElem? (i := 39) rfl))))))))
set_option maxRecDepth 100000 in
theorem w_740 : (.code yX9_hoursOf cX9_hoursOf 2 (some .int) : Cond) ∈ ALLW := List.mem_append_right _ (List.mem_append_right _ (List.mem_append_right _ (List.mem_append_right _ (List.mem_append_right _ (List.mem_append_right _ (List.mem_append_right _ (List.mem_append_left _ (List.mem_of_getElem? (i := 40) rfl))))))))
set_option maxRecDepth 100000 in
theorem w_741 : (.methodLink RX9 282 yX9_kindOf : Cond) ∈ ALLW := List.mem_append_right _ (List.mem_append_right _ (List.mem_append_right _ (List.mem_append_right _ (List.mem_append_right _ (List.mem_append_right _ (List.mem_append_right _ (List.mem_append_left _ (List.mem_of_getElem? (i := 41) rfl))))))))
set_option maxRecDepth 100000 in
theorem w_742 : (.instanceMethod yX9_kindOf : Cond) ∈ ALLW := List.mem_append_right _ (List.mem_append_right _ (List.mem_append_right _ (List.mem_append_right _ (List.mem_append_right _ (List.mem_append_right _ (List.mem_append_right _ (List.mem_append_left _ (List.mem_of_getElem? (i := 42) rfl))))))))
set_option maxRecDepth 100000 in
theorem w_743 : (.selects RX9 yX9_kindOf yX9_kindOf : Cond) ∈ ALLW := List.mem_append_right _ (List.mem_append_right _ (List.mem_append_right _ (List.mem_append_right _ (List.mem_append_right _ (List.mem_append_right _ (List.mem_append_right _ (List.mem_append_left _ (List.mem_of_getElem? (i := 43) rfl))))))))
set_option maxRecDepth 100000 in
theorem w_744 : (.code yX9_kindOf cX9_kindOf 2 (some .int) : Cond) ∈ ALLW := List.mem_append_right _ (List.mem_append_right _ (List.mem_append_right _ (List.mem_append_right _ (List.mem_append_right _ (List.mem_append_right _ (List.mem_append_right _ (List.mem_append_left _ (List.mem_of_getElem? (i := 44) rfl))))))))
set_option maxRecDepth 100000 in
theorem w_745 : (.methodLink RX9 285 yX9_worthOf : Cond) ∈ ALLW := List.mem_append_right _ (List.mem_append_right _ (List.mem_append_right _ (List.mem_append_right _ (List.mem_append_right _ (List.mem_append_right _ (List.mem_append_right _ (List.mem_append_left _ (List.mem_of_getElem? (i := 45) rfl))))))))
set_option maxRecDepth 100000 in
theorem w_746 : (.instanceMethod yX9_worthOf : Cond) ∈ ALLW := List.mem_append_right _ (List.mem_append_right _ (List.mem_append_right _ (List.mem_append_right _ (List.mem_append_right _ (List.mem_append_right _ (List.mem_append_right _ (List.mem_append_left _ (List.mem_of_getElem? (i := 46) rfl))))))))
set_option maxRecDepth 100000 in
theorem w_747 : (.selects RX9 yX9_worthOf yX9_worthOf : Cond) ∈ ALLW := List.mem_append_right _ (List.mem_append_right _ (List.mem_append_right _ (List.mem_append_right _ (List.mem_append_right _ (List.mem_append_right _ (List.mem_append_right _ (List.mem_append_left _ (List.mem_of_getElem? (i := 47) rfl))))))))
set_option maxRecDepth 100000 in
theorem w_748 : (.code yX9_worthOf cX9_worthOf 2 (some .int) : Cond) ∈ ALLW := List.mem_append_right _ (List.mem_append_right _ (List.mem_append_right _ (List.mem_append_right _ (List.mem_append_right _ (List.mem_append_right _ (List.mem_append_right _ (List.mem_append_left _ (List.mem_of_getElem? (i := 48) rfl))))))))
set_option maxRecDepth 100000 in
theorem w_749 : (.methodLink RX9 340 yX9_fromOf : Cond) ∈ ALLW := List.mem_append_right _ (List.mem_append_right _ (List.mem_append_right _ (List.mem_append_right _ (List.mem_append_right _ (List.mem_append_right _ (List.mem_append_right _ (List.mem_append_left _ (List.mem_of_getElem? (i := 49) rfl))))))))
set_option maxRecDepth 100000 in
theorem w_750 : (.instanceMethod yX9_fromOf : Cond) ∈ ALLW := List.mem_append_right _ (List.mem_append_right _ (List.mem_append_right _ (List.mem_append_right _ (List.mem_append_right _ (List.mem_append_right _ (List.mem_append_right _ (List.mem_append_left _ (List.mem_of_getElem? (i := 50) rfl))))))))
set_option maxRecDepth 100000 in
theorem w_751 : (.selects RX9 yX9_fromOf yX9_fromOf : Cond) ∈ ALLW := List.mem_append_right _ (List.mem_append_right _ (List.mem_append_right _ (List.mem_append_right _ (List.mem_append_right _ (List.mem_append_right _ (List.mem_append_right _ (List.mem_append_left _ (List.mem_of_getElem? (i := 51) rfl))))))))
set_option maxRecDepth 100000 in
theorem w_752 : (.code yX9_fromOf cX9_fromOf 2 (some .int) : Cond) ∈ ALLW := List.mem_append_right _ (List.mem_append_right _ (List.mem_append_right _ (List.mem_append_right _ (List.mem_append_right _ (List.mem_append_right _ (List.mem_append_right _ (List.mem_append_left _ (List.mem_of_getElem? (i := 52) rfl))))))))
set_option maxRecDepth 100000 in
theorem w_753 : (.methodLink RX9 343 yX9_hears : Cond) ∈ ALLW := List.mem_append_right _ (List.mem_append_right _ (List.mem_append_right _ (List.mem_append_right _ (List.mem_append_right _ (List.mem_append_right _ (List.mem_append_right _ (List.mem_append_left _ (List.mem_of_getElem? (i := 53) rfl))))))))
set_option maxRecDepth 100000 in
theorem w_754 : (.instanceMethod yX9_hears : Cond) ∈ ALLW := List.mem_append_right _ (List.mem_append_right _ (List.mem_append_right _ (List.mem_append_right _ (List.mem_append_right _ (List.mem_append_right _ (List.mem_append_right _ (List.mem_append_left _ (List.mem_of_getElem? (i := 54) rfl))))))))
set_option maxRecDepth 100000 in
theorem w_755 : (.selects RX9 yX9_hears yX9_hears : Cond) ∈ ALLW := List.mem_append_right _ (List.mem_append_right _ (List.mem_append_right _ (List.mem_append_right _ (List.mem_append_right _ (List.mem_append_right _ (List.mem_append_right _ (List.mem_append_left _ (List.mem_of_getElem? (i := 55) rfl))))))))
set_option maxRecDepth 100000 in
theorem w_756 : (.code yX9_hears cX9_hears 4 none : Cond) ∈ ALLW := List.mem_append_right _ (List.mem_append_right _ (List.mem_append_right _ (List.mem_append_right _ (List.mem_append_right _ (List.mem_append_right _ (List.mem_append_right _ (List.mem_append_left _ (List.mem_of_getElem? (i := 56) rfl))))))))
set_option maxRecDepth 100000 in
theorem w_757 : (.methodLink RX9 362 yX9_isAnswered : Cond) ∈ ALLW := List.mem_append_right _ (List.mem_append_right _ (List.mem_append_right _ (List.mem_append_right _ (List.mem_append_right _ (List.mem_append_right _ (List.mem_append_right _ (List.mem_append_left _ (List.mem_of_getElem? (i := 57) rfl))))))))
set_option maxRecDepth 100000 in
theorem w_758 : (.instanceMethod yX9_isAnswered : Cond) ∈ ALLW := List.mem_append_right _ (List.mem_append_right _ (List.mem_append_right _ (List.mem_append_right _ (List.mem_append_right _ (List.mem_append_right _ (List.mem_append_right _ (List.mem_append_left _ (List.mem_of_getElem? (i := 58) rfl))))))))
set_option maxRecDepth 100000 in
theorem w_759 : (.selects RX9 yX9_isAnswered yX9_isAnswered : Cond) ∈ ALLW := List.mem_append_right _ (List.mem_append_right _ (List.mem_append_right _ (List.mem_append_right _ (List.mem_append_right _ (List.mem_append_right _ (List.mem_append_right _ (List.mem_append_left _ (List.mem_of_getElem? (i := 59) rfl))))))))
set_option maxRecDepth 100000 in
theorem w_760 : (.code yX9_isAnswered cX9_isAnswered 3 none : Cond) ∈ ALLW := List.mem_append_right _ (List.mem_append_right _ (List.mem_append_right _ (List.mem_append_right _ (List.mem_append_right _ (List.mem_append_right _ (List.mem_append_right _ (List.mem_append_left _ (List.mem_of_getElem? (i := 60) rfl))))))))
set_option maxRecDepth 100000 in
theorem w_761 : (.methodLink RX9 386 yX9_hoursOn : Cond) ∈ ALLW := List.mem_append_right _ (List.mem_append_right _ (List.mem_append_right _ (List.mem_append_right _ (List.mem_append_right _ (List.mem_append_right _ (List.mem_append_right _ (List.mem_append_left _ (List.mem_of_getElem? (i := 61) rfl))))))))
set_option maxRecDepth 100000 in
theorem w_762 : (.instanceMethod yX9_hoursOn : Cond) ∈ ALLW := List.mem_append_right _ (List.mem_append_right _ (List.mem_append_right _ (List.mem_append_right _ (List.mem_append_right _ (List.mem_append_right _ (List.mem_append_right _ (List.mem_append_left _ (List.mem_of_getElem? (i := 62) rfl))))))))
set_option maxRecDepth 100000 in
theorem w_763 : (.selects RX9 yX9_hoursOn yX9_hoursOn : Cond) ∈ ALLW := List.mem_append_right _ (List.mem_append_right _ (List.mem_append_right _ (List.mem_append_right _ (List.mem_append_right _ (List.mem_append_right _ (List.mem_append_right _ (List.mem_append_left _ (List.mem_of_getElem? (i := 63) rfl))))))))
set_option maxRecDepth 100000 in
theorem w_764 : (.code yX9_hoursOn cX9_hoursOn 4 (some .int) : Cond) ∈ ALLW := List.mem_append_right _ (List.mem_append_right _ (List.mem_append_right _ (List.mem_append_right _ (List.mem_append_right _ (List.mem_append_right _ (List.mem_append_right _ (List.mem_append_left _ (List.mem_of_getElem? (i := 64) rfl))))))))
set_option maxRecDepth 100000 in
theorem w_765 : (.fieldLink RX9 365 "OldestFirstModel" "visitHours" "I" : Cond) ∈ ALLW := List.mem_append_right _ (List.mem_append_right _ (List.mem_append_right _ (List.mem_append_right _ (List.mem_append_right _ (List.mem_append_right _ (List.mem_append_right _ (List.mem_append_left _ (List.mem_of_getElem? (i := 65) rfl))))))))
set_option maxRecDepth 100000 in
theorem w_766 : (.methodLink RX9 389 yX9_works : Cond) ∈ ALLW := List.mem_append_right _ (List.mem_append_right _ (List.mem_append_right _ (List.mem_append_right _ (List.mem_append_right _ (List.mem_append_right _ (List.mem_append_right _ (List.mem_append_left _ (List.mem_of_getElem? (i := 66) rfl))))))))
set_option maxRecDepth 100000 in
theorem w_767 : (.instanceMethod yX9_works : Cond) ∈ ALLW := List.mem_append_right _ (List.mem_append_right _ (List.mem_append_right _ (List.mem_append_right _ (List.mem_append_right _ (List.mem_append_right _ (List.mem_append_right _ (List.mem_append_left _ (List.mem_of_getElem? (i := 67) rfl))))))))
set_option maxRecDepth 100000 in
theorem w_768 : (.selects RX9 yX9_works yX9_works : Cond) ∈ ALLW := List.mem_append_right _ (List.mem_append_right _ (List.mem_append_right _ (List.mem_append_right _ (List.mem_append_right _ (List.mem_append_right _ (List.mem_append_right _ (List.mem_append_left _ (List.mem_of_getElem? (i := 68) rfl))))))))
set_option maxRecDepth 100000 in
theorem w_769 : (.code yX9_works cX9_works 7 (some .int) : Cond) ∈ ALLW := List.mem_append_right _ (List.mem_append_right _ (List.mem_append_right _ (List.mem_append_right _ (List.mem_append_right _ (List.mem_append_right _ (List.mem_append_right _ (List.mem_append_left _ (List.mem_of_getElem? (i := 69) rfl))))))))
set_option maxRecDepth 100000 in
theorem w_770 : (.methodLink RX9 331 yX9_manyOn : Cond) ∈ ALLW := List.mem_append_right _ (List.mem_append_right _ (List.mem_append_right _ (List.mem_append_right _ (List.mem_append_right _ (List.mem_append_right _ (List.mem_append_right _ (List.mem_append_left _ (List.mem_of_getElem? (i := 70) rfl))))))))
set_option maxRecDepth 100000 in
theorem w_771 : (.instanceMethod yX9_manyOn : Cond) ∈ ALLW := List.mem_append_right _ (List.mem_append_right _ (List.mem_append_right _ (List.mem_append_right _ (List.mem_append_right _ (List.mem_append_right _ (List.mem_append_right _ (List.mem_append_left _ (List.mem_of_getElem? (i := 71) rfl))))))))
set_option maxRecDepth 100000 in
theorem w_772 : (.selects RX9 yX9_manyOn yX9_manyOn : Cond) ∈ ALLW := List.mem_append_right _ (List.mem_append_right _ (List.mem_append_right _ (List.mem_append_right _ (List.mem_append_right _ (List.mem_append_right _ (List.mem_append_right _ (List.mem_append_left _ (List.mem_of_getElem? (i := 72) rfl))))))))
set_option maxRecDepth 100000 in
theorem w_773 : (.code yX9_manyOn cX9_manyOn 5 (some .int) : Cond) ∈ ALLW := List.mem_append_right _ (List.mem_append_right _ (List.mem_append_right _ (List.mem_append_right _ (List.mem_append_right _ (List.mem_append_right _ (List.mem_append_right _ (List.mem_append_left _ (List.mem_of_getElem? (i := 73) rfl))))))))
set_option maxRecDepth 100000 in
theorem w_774 : (.methodLink RX9 371 yX9_drawnOf : Cond) ∈ ALLW := List.mem_append_right _ (List.mem_append_right _ (List.mem_append_right _ (List.mem_append_right _ (List.mem_append_right _ (List.mem_append_right _ (List.mem_append_right _ (List.mem_append_left _ (List.mem_of_getElem? (i := 74) rfl))))))))
set_option maxRecDepth 100000 in
theorem w_775 : (.instanceMethod yX9_drawnOf : Cond) ∈ ALLW := List.mem_append_right _ (List.mem_append_right _ (List.mem_append_right _ (List.mem_append_right _ (List.mem_append_right _ (List.mem_append_right _ (List.mem_append_right _ (List.mem_append_left _ (List.mem_of_getElem? (i := 75) rfl))))))))
set_option maxRecDepth 100000 in
theorem w_776 : (.selects RX9 yX9_drawnOf yX9_drawnOf : Cond) ∈ ALLW := List.mem_append_right _ (List.mem_append_right _ (List.mem_append_right _ (List.mem_append_right _ (List.mem_append_right _ (List.mem_append_right _ (List.mem_append_right _ (List.mem_append_left _ (List.mem_of_getElem? (i := 76) rfl))))))))
set_option maxRecDepth 100000 in
theorem w_777 : (.code yX9_drawnOf cX9_drawnOf 7 (some .int) : Cond) ∈ ALLW := List.mem_append_right _ (List.mem_append_right _ (List.mem_append_right _ (List.mem_append_right _ (List.mem_append_right _ (List.mem_append_right _ (List.mem_append_right _ (List.mem_append_left _ (List.mem_of_getElem? (i := 77) rfl))))))))
set_option maxRecDepth 100000 in
theorem w_778 : (.methodLink RX9 334 yX9_drawn : Cond) ∈ ALLW := List.mem_append_right _ (List.mem_append_right _ (List.mem_append_right _ (List.mem_append_right _ (List.mem_append_right _ (List.mem_append_right _ (List.mem_append_right _ (List.mem_append_left _ (List.mem_of_getElem? (i := 78) rfl))))))))
set_option maxRecDepth 100000 in
theorem w_779 : (.instanceMethod yX9_drawn : Cond) ∈ ALLW := List.mem_append_right _ (List.mem_append_right _ (List.mem_append_right _ (List.mem_append_right _ (List.mem_append_right _ (List.mem_append_right _ (List.mem_append_right _ (List.mem_append_left _ (List.mem_of_getElem? (i := 79) rfl))))))))
set_option maxRecDepth 100000 in
theorem w_780 : (.selects RX9 yX9_drawn yX9_drawn : Cond) ∈ ALLW := List.mem_append_right _ (List.mem_append_right _ (List.mem_append_right _ (List.mem_append_right _ (List.mem_append_right _ (List.mem_append_right _ (List.mem_append_right _ (List.mem_append_left _ (List.mem_of_getElem? (i := 80) rfl))))))))
set_option maxRecDepth 100000 in
theorem w_781 : (.code yX9_drawn cX9_drawn 2 (some .int) : Cond) ∈ ALLW := List.mem_append_right _ (List.mem_append_right _ (List.mem_append_right _ (List.mem_append_right _ (List.mem_append_right _ (List.mem_append_right _ (List.mem_append_right _ (List.mem_append_left _ (List.mem_of_getElem? (i := 81) rfl))))))))
set_option maxRecDepth 100000 in
theorem w_782 : (.constantLong RX9 323 (1103515245) : Cond) ∈ ALLW := List.mem_append_right _ (List.mem_append_right _ (List.mem_append_right _ (List.mem_append_right _ (List.mem_append_right _ (List.mem_append_right _ (List.mem_append_right _ (List.mem_append_left _ (List.mem_of_getElem? (i := 82) rfl))))))))
set_option maxRecDepth 100000 in
theorem w_783 : (.constantLong RX9 325 (12345) : Cond) ∈ ALLW := List.mem_append_right _ (List.mem_append_right _ (List.mem_append_right _ (List.mem_append_right _ (List.mem_append_right _ (List.mem_append_right _ (List.mem_append_right _ (List.mem_append_left _ (List.mem_of_getElem? (i := 83) rfl))))))))
set_option maxRecDepth 100000 in
theorem w_784 : (.constantLong RX9 327 (2147483648) : Cond) ∈ ALLW := List.mem_append_right _ (List.mem_append_right _ (List.mem_append_right _ (List.mem_append_right _ (List.mem_append_right _ (List.mem_append_right _ (List.mem_append_right _ (List.mem_append_left _ (List.mem_of_getElem? (i := 84) rfl))))))))
set_option maxRecDepth 100000 in
theorem w_785 : (.constantLong RX9 329 (65536) : Cond) ∈ ALLW := List.mem_append_right _ (List.mem_append_right _ (List.mem_append_right _ (List.mem_append_right _ (List.mem_append_right _ (List.mem_append_right _ (List.mem_append_right _ (List.mem_append_left _ (List.mem_of_getElem? (i := 85) rfl))))))))
set_option maxRecDepth 100000 in
theorem w_786 : (.methodLink RX9 374 yX9_firstOf : Cond) ∈ ALLW := List.mem_append_right _ (List.mem_append_right _ (List.mem_append_right _ (List.mem_append_right _ (List.mem_append_right _ (List.mem_append_right _ (List.mem_append_right _ (List.mem_append_left _ (List.mem_of_getElem? (i := 86) rfl))))))))
set_option maxRecDepth 100000 in
theorem w_787 : (.instanceMethod yX9_firstOf : Cond) ∈ ALLW := List.mem_append_right _ (List.mem_append_right _ (List.mem_append_right _ (List.mem_append_right _ (List.mem_append_right _ (List.mem_append_right _ (List.mem_append_right _ (List.mem_append_left _ (List.mem_of_getElem? (i := 87) rfl))))))))
set_option maxRecDepth 100000 in
theorem w_788 : (.selects RX9 yX9_firstOf yX9_firstOf : Cond) ∈ ALLW := List.mem_append_right _ (List.mem_append_right _ (List.mem_append_right _ (List.mem_append_right _ (List.mem_append_right _ (List.mem_append_right _ (List.mem_append_right _ (List.mem_append_left _ (List.mem_of_getElem? (i := 88) rfl))))))))
set_option maxRecDepth 100000 in
theorem w_789 : (.code yX9_firstOf cX9_firstOf 5 (some .int) : Cond) ∈ ALLW := List.mem_append_right _ (List.mem_append_right _ (List.mem_append_right _ (List.mem_append_right _ (List.mem_append_right _ (List.mem_append_right _ (List.mem_append_right _ (List.mem_append_left _ (List.mem_of_getElem? (i := 89) rfl))))))))
set_option maxRecDepth 100000 in
theorem w_790 : (.methodLink RX9 319 yX9_isAhead : Cond) ∈ ALLW := List.mem_append_right _ (List.mem_append_right _ (List.mem_append_right _ (List.mem_append_right _ (List.mem_append_right _ (List.mem_append_right _ (List.mem_append_right _ (List.mem_append_left _ (List.mem_of_getElem? (i := 90) rfl))))))))
set_option maxRecDepth 100000 in
theorem w_791 : (.instanceMethod yX9_isAhead : Cond) ∈ ALLW := List.mem_append_right _ (List.mem_append_right _ (List.mem_append_right _ (List.mem_append_right _ (List.mem_append_right _ (List.mem_append_right _ (List.mem_append_right _ (List.mem_append_left _ (List.mem_of_getElem? (i := 91) rfl))))))))
set_option maxRecDepth 100000 in
theorem w_792 : (.selects RX9 yX9_isAhead yX9_isAhead : Cond) ∈ ALLW := List.mem_append_right _ (List.mem_append_right _ (List.mem_append_right _ (List.mem_append_right _ (List.mem_append_right _ (List.mem_append_right _ (List.mem_append_right _ (List.mem_append_left _ (List.mem_of_getElem? (i := 92) rfl))))))))
set_option maxRecDepth 100000 in
theorem w_793 : (.code yX9_isAhead cX9_isAhead 3 (some .boolean) : Cond) ∈ ALLW := List.mem_append_right _ (List.mem_append_right _ (List.mem_append_right _ (List.mem_append_right _ (List.mem_append_right _ (List.mem_append_right _ (List.mem_append_right _ (List.mem_append_left _ (List.mem_of_getElem? (i := 93) rfl))))))))
set_option maxRecDepth 100000 in
theorem w_794 : (.methodLink RX9 377 yX9_afterOf : Cond) ∈ ALLW := List.mem_append_right _ (List.mem_append_right _ (List.mem_append_right _ (List.mem_append_right _ (List.mem_append_right _ (List.mem_append_right _ (List.mem_append_right _ (List.mem_append_left _ (List.mem_of_getElem? (i := 94) rfl))))))))
set_option maxRecDepth 100000 in
theorem w_795 : (.instanceMethod yX9_afterOf : Cond) ∈ ALLW := List.mem_append_right _ (List.mem_append_right _ (List.mem_append_right _ (List.mem_append_right _ (List.mem_append_right _ (List.mem_append_right _ (List.mem_append_right _ (List.mem_append_left _ (List.mem_of_getElem? (i := 95) rfl))))))))
set_option maxRecDepth 100000 in
theorem w_796 : (.selects RX9 yX9_afterOf yX9_afterOf : Cond) ∈ ALLW := List.mem_append_right _ (List.mem_append_right _ (List.mem_append_right _ (List.mem_append_right _ (List.mem_append_right _ (List.mem_append_right _ (List.mem_append_right _ (List.mem_append_left _ (List.mem_of_getElem? (i := 96) rfl))))))))
set_option maxRecDepth 100000 in
theorem w_797 : (.code yX9_afterOf cX9_afterOf 2 (some .int) : Cond) ∈ ALLW := List.mem_append_right _ (List.mem_append_right _ (List.mem_append_right _ (List.mem_append_right _ (List.mem_append_right _ (List.mem_append_right _ (List.mem_append_right _ (List.mem_append_left _ (List.mem_of_getElem? (i := 97) rfl))))))))
set_option maxRecDepth 100000 in
theorem w_798 : (.methodLink RX9 380 yX9_hasHeard : Cond) ∈ ALLW := List.mem_append_right _ (List.mem_append_right _ (List.mem_append_right _ (List.mem_append_right _ (List.mem_append_right _ (List.mem_append_right _ (List.mem_append_right _ (List.mem_append_left _ (List.mem_of_getElem? (i := 98) rfl))))))))
set_option maxRecDepth 100000 in
theorem w_799 : (.instanceMethod yX9_hasHeard : Cond) ∈ ALLW := List.mem_append_right _ (List.mem_append_right _ (List.mem_append_right _ (List.mem_append_right _ (List.mem_append_right _ (List.mem_append_right _ (List.mem_append_right _ (List.mem_append_left _ (List.mem_of_getElem? (i := 99) rfl))))))))
set_option maxRecDepth 100000 in
theorem w_800 : (.selects RX9 yX9_hasHeard yX9_hasHeard : Cond) ∈ ALLW := List.mem_append_right _ (List.mem_append_right _ (List.mem_append_right _ (List.mem_append_right _ (List.mem_append_right _ (List.mem_append_right _ (List.mem_append_right _ (List.mem_append_right _ (List.mem_append_left _ (List.mem_of_getElem? (i := 0) rfl)))))))))
set_option maxRecDepth 100000 in
theorem w_801 : (.code yX9_hasHeard cX9_hasHeard 3 (some .boolean) : Cond) ∈ ALLW := List.mem_append_right _ (List.mem_append_right _ (List.mem_append_right _ (List.mem_append_right _ (List.mem_append_right _ (List.mem_append_right _ (List.mem_append_right _ (List.mem_append_right _ (List.mem_append_left _ (List.mem_of_getElem? (i := 1) rfl)))))))))
set_option maxRecDepth 100000 in
theorem w_802 : (.methodLink RL 41 yX8_hours : Cond) ∈ ALLW := List.mem_append_right _ (List.mem_append_right _ (List.mem_append_right _ (List.mem_append_right _ (List.mem_append_right _ (List.mem_append_right _ (List.mem_append_right _ (List.mem_append_right _ (List.mem_append_left _ (List.mem_of_getElem? (i := 2) rfl)))))))))
set_option maxRecDepth 100000 in
theorem w_803 : (.instanceMethod yX8_hours : Cond) ∈ ALLW := List.mem_append_right _ (List.mem_append_right _ (List.mem_append_right _ (List.mem_append_right _ (List.mem_append_right _ (List.mem_append_right _ (List.mem_append_right _ (List.mem_append_right _ (List.mem_append_left _ (List.mem_of_getElem? (i := 3) rfl)))))))))
set_option maxRecDepth 100000 in
theorem w_804 : (.selects RX8 yX8_hours yX8_hours : Cond) ∈ ALLW := List.mem_append_right _ (List.mem_append_right _ (List.mem_append_right _ (List.mem_append_right _ (List.mem_append_right _ (List.mem_append_right _ (List.mem_append_right _ (List.mem_append_right _ (List.mem_append_left _ (List.mem_of_getElem? (i := 4) rfl)))))))))
set_option maxRecDepth 100000 in
theorem w_805 : (.code yX8_hours cX8_hours 4 (some .int) : Cond) ∈ ALLW := List.mem_append_right _ (List.mem_append_right _ (List.mem_append_right _ (List.mem_append_right _ (List.mem_append_right _ (List.mem_append_right _ (List.mem_append_right _ (List.mem_append_right _ (List.mem_append_left _ (List.mem_of_getElem? (i := 5) rfl)))))))))
set_option maxRecDepth 100000 in
theorem w_806 : (.methodLink RX8 172 yX7_isTold : Cond) ∈ ALLW := List.mem_append_right _ (List.mem_append_right _ (List.mem_append_right _ (List.mem_append_right _ (List.mem_append_right _ (List.mem_append_right _ (List.mem_append_right _ (List.mem_append_right _ (List.mem_append_left _ (List.mem_of_getElem? (i := 6) rfl)))))))))
set_option maxRecDepth 100000 in
theorem w_807 : (.methodLink RL 44 yX9_hours : Cond) ∈ ALLW := List.mem_append_right _ (List.mem_append_right _ (List.mem_append_right _ (List.mem_append_right _ (List.mem_append_right _ (List.mem_append_right _ (List.mem_append_right _ (List.mem_append_right _ (List.mem_append_left _ (List.mem_of_getElem? (i := 7) rfl)))))))))
set_option maxRecDepth 100000 in
theorem w_808 : (.instanceMethod yX9_hours : Cond) ∈ ALLW := List.mem_append_right _ (List.mem_append_right _ (List.mem_append_right _ (List.mem_append_right _ (List.mem_append_right _ (List.mem_append_right _ (List.mem_append_right _ (List.mem_append_right _ (List.mem_append_left _ (List.mem_of_getElem? (i := 8) rfl)))))))))
set_option maxRecDepth 100000 in
theorem w_809 : (.selects RX9 yX9_hours yX9_hours : Cond) ∈ ALLW := List.mem_append_right _ (List.mem_append_right _ (List.mem_append_right _ (List.mem_append_right _ (List.mem_append_right _ (List.mem_append_right _ (List.mem_append_right _ (List.mem_append_right _ (List.mem_append_left _ (List.mem_of_getElem? (i := 9) rfl)))))))))
set_option maxRecDepth 100000 in
theorem w_810 : (.code yX9_hours cX9_hours 4 (some .int) : Cond) ∈ ALLW := List.mem_append_right _ (List.mem_append_right _ (List.mem_append_right _ (List.mem_append_right _ (List.mem_append_right _ (List.mem_append_right _ (List.mem_append_right _ (List.mem_append_right _ (List.mem_append_left _ (List.mem_of_getElem? (i := 10) rfl)))))))))
set_option maxRecDepth 100000 in
theorem w_811 : (.constantLong RX9 293 (99) : Cond) ∈ ALLW := List.mem_append_right _ (List.mem_append_right _ (List.mem_append_right _ (List.mem_append_right _ (List.mem_append_right _ (List.mem_append_right _ (List.mem_append_right _ (List.mem_append_right _ (List.mem_append_left _ (List.mem_of_getElem? (i := 11) rfl)))))))))
set_option maxRecDepth 100000 in
theorem w_812 : (.methodLink RL 45 yX8_law : Cond) ∈ ALLW := List.mem_append_right _ (List.mem_append_right _ (List.mem_append_right _ (List.mem_append_right _ (List.mem_append_right _ (List.mem_append_right _ (List.mem_append_right _ (List.mem_append_right _ (List.mem_append_left _ (List.mem_of_getElem? (i := 12) rfl)))))))))
set_option maxRecDepth 100000 in
theorem w_813 : (.instanceMethod yX8_law : Cond) ∈ ALLW := List.mem_append_right _ (List.mem_append_right _ (List.mem_append_right _ (List.mem_append_right _ (List.mem_append_right _ (List.mem_append_right _ (List.mem_append_right _ (List.mem_append_right _ (List.mem_append_left _ (List.mem_of_getElem? (i := 13) rfl)))))))))
set_option maxRecDepth 100000 in
theorem w_814 : (.selects RX8 yX8_law yX8_law : Cond) ∈ ALLW := List.mem_append_right _ (List.mem_append_right _ (List.mem_append_right _ (List.mem_append_right _ (List.mem_append_right _ (List.mem_append_right _ (List.mem_append_right _ (List.mem_append_right _ (List.mem_append_left _ (List.mem_of_getElem? (i := 14) rfl)))))))))
set_option maxRecDepth 100000 in
theorem w_815 : (.code yX8_law cX8_law 3 (some .int) : Cond) ∈ ALLW := List.mem_append_right _ (List.mem_append_right _ (List.mem_append_right _ (List.mem_append_right _ (List.mem_append_right _ (List.mem_append_right _ (List.mem_append_right _ (List.mem_append_right _ (List.mem_append_left _ (List.mem_of_getElem? (i := 15) rfl)))))))))
set_option maxRecDepth 100000 in
theorem w_816 : (.fieldLink RX8 178 "OldestFirst$Town" "law" "I" : Cond) ∈ ALLW := List.mem_append_right _ (List.mem_append_right _ (List.mem_append_right _ (List.mem_append_right _ (List.mem_append_right _ (List.mem_append_right _ (List.mem_append_right _ (List.mem_append_right _ (List.mem_append_left _ (List.mem_of_getElem? (i := 16) rfl)))))))))
set_option maxRecDepth 100000 in
theorem w_817 : (.methodLink RX8 175 yX8_noTown : Cond) ∈ ALLW := List.mem_append_right _ (List.mem_append_right _ (List.mem_append_right _ (List.mem_append_right _ (List.mem_append_right _ (List.mem_append_right _ (List.mem_append_right _ (List.mem_append_right _ (List.mem_append_left _ (List.mem_of_getElem? (i := 17) rfl)))))))))
set_option maxRecDepth 100000 in
theorem w_818 : (.instanceMethod yX8_noTown : Cond) ∈ ALLW := List.mem_append_right _ (List.mem_append_right _ (List.mem_append_right _ (List.mem_append_right _ (List.mem_append_right _ (List.mem_append_right _ (List.mem_append_right _ (List.mem_append_right _ (List.mem_append_left _ (List.mem_of_getElem? (i := 18) rfl)))))))))
set_option maxRecDepth 100000 in
theorem w_819 : (.selects RX8 yX8_noTown yX8_noTown : Cond) ∈ ALLW := List.mem_append_right _ (List.mem_append_right _ (List.mem_append_right _ (List.mem_append_right _ (List.mem_append_right _ (List.mem_append_right _ (List.mem_append_right _ (List.mem_append_right _ (List.mem_append_left _ (List.mem_of_getElem? (i := 19) rfl)))))))))
set_option maxRecDepth 100000 in
theorem w_820 : (.code yX8_noTown cX8_noTown 1 (some .boolean) : Cond) ∈ ALLW := List.mem_append_right _ (List.mem_append_right _ (List.mem_append_right _ (List.mem_append_right _ (List.mem_append_right _ (List.mem_append_right _ (List.mem_append_right _ (List.mem_append_right _ (List.mem_append_left _ (List.mem_of_getElem? (i := 20) rfl)))))))))
set_option maxRecDepth 100000 in
theorem w_821 : (.methodLink RL 48 yX9_law : Cond) ∈ ALLW := List.mem_append_right _ (List.mem_append_right _ (List.mem_append_right _ (List.mem_append_right _ (List.mem_append_right _ (List.mem_append_right _ (List.mem_append_right _ (List.mem_append_right _ (List.mem_append_left _ (List.mem_of_getElem? (i := 21) rfl)))))))))
set_option maxRecDepth 100000 in
theorem w_822 : (.instanceMethod yX9_law : Cond) ∈ ALLW := List.mem_append_right _ (List.mem_append_right _ (List.mem_append_right _ (List.mem_append_right _ (List.mem_append_right _ (List.mem_append_right _ (List.mem_append_right _ (List.mem_append_right _ (List.mem_append_left _ (List.mem_of_getElem? (i := 22) rfl)))))))))
set_option maxRecDepth 100000 in
theorem w_823 : (.selects RX9 yX9_law yX9_law : Cond) ∈ ALLW := List.mem_append_right _ (List.mem_append_right _ (List.mem_append_right _ (List.mem_append_right _ (List.mem_append_right _ (List.mem_append_right _ (List.mem_append_right _ (List.mem_append_right _ (List.mem_append_left _ (List.mem_of_getElem? (i := 23) rfl)))))))))
set_option maxRecDepth 100000 in
theorem w_824 : (.code yX9_law cX9_law 3 (some .int) : Cond) ∈ ALLW := List.mem_append_right _ (List.mem_append_right _ (List.mem_append_right _ (List.mem_append_right _ (List.mem_append_right _ (List.mem_append_right _ (List.mem_append_right _ (List.mem_append_right _ (List.mem_append_left _ (List.mem_of_getElem? (i := 24) rfl)))))))))
set_option maxRecDepth 100000 in
theorem w_825 : (.constantLong RX9 98 (3) : Cond) ∈ ALLW := List.mem_append_right _ (List.mem_append_right _ (List.mem_append_right _ (List.mem_append_right _ (List.mem_append_right _ (List.mem_append_right _ (List.mem_append_right _ (List.mem_append_right _ (List.mem_append_left _ (List.mem_of_getElem? (i := 25) rfl)))))))))
set_option maxRecDepth 100000 in
theorem w_826 : (.methodLink RX9 295 yX9_isTown : Cond) ∈ ALLW := List.mem_append_right _ (List.mem_append_right _ (List.mem_append_right _ (List.mem_append_right _ (List.mem_append_right _ (List.mem_append_right _ (List.mem_append_right _ (List.mem_append_right _ (List.mem_append_left _ (List.mem_of_getElem? (i := 26) rfl)))))))))
set_option maxRecDepth 100000 in
theorem w_827 : (.instanceMethod yX9_isTown : Cond) ∈ ALLW := List.mem_append_right _ (List.mem_append_right _ (List.mem_append_right _ (List.mem_append_right _ (List.mem_append_right _ (List.mem_append_right _ (List.mem_append_right _ (List.mem_append_right _ (List.mem_append_left _ (List.mem_of_getElem? (i := 27) rfl)))))))))
set_option maxRecDepth 100000 in
theorem w_828 : (.selects RX9 yX9_isTown yX9_isTown : Cond) ∈ ALLW := List.mem_append_right _ (List.mem_append_right _ (List.mem_append_right _ (List.mem_append_right _ (List.mem_append_right _ (List.mem_append_right _ (List.mem_append_right _ (List.mem_append_right _ (List.mem_append_left _ (List.mem_of_getElem? (i := 28) rfl)))))))))
set_option maxRecDepth 100000 in
theorem w_829 : (.code yX9_isTown cX9_isTown 1 (some .boolean) : Cond) ∈ ALLW := List.mem_append_right _ (List.mem_append_right _ (List.mem_append_right _ (List.mem_append_right _ (List.mem_append_right _ (List.mem_append_right _ (List.mem_append_right _ (List.mem_append_right _ (List.mem_append_left _ (List.mem_of_getElem? (i := 29) rfl)))))))))
set_option maxRecDepth 100000 in
theorem w_830 : (.methodLink RL 49 yX8_answered : Cond) ∈ ALLW := List.mem_append_right _ (List.mem_append_right _ (List.mem_append_right _ (List.mem_append_right _ (List.mem_append_right _ (List.mem_append_right _ (List.mem_append_right _ (List.mem_append_right _ (List.mem_append_left _ (List.mem_of_getElem? (i := 30) rfl)))))))))
set_option maxRecDepth 100000 in
theorem w_831 : (.instanceMethod yX8_answered : Cond) ∈ ALLW := List.mem_append_right _ (List.mem_append_right _ (List.mem_append_right _ (List.mem_append_right _ (List.mem_append_right _ (List.mem_append_right _ (List.mem_append_right _ (List.mem_append_right _ (List.mem_append_left _ (List.mem_of_getElem? (i := 31) rfl)))))))))
set_option maxRecDepth 100000 in
theorem w_832 : (.selects RX8 yX8_answered yX8_answered : Cond) ∈ ALLW := List.mem_append_right _ (List.mem_append_right _ (List.mem_append_right _ (List.mem_append_right _ (List.mem_append_right _ (List.mem_append_right _ (List.mem_append_right _ (List.mem_append_right _ (List.mem_append_left _ (List.mem_of_getElem? (i := 32) rfl)))))))))
set_option maxRecDepth 100000 in
theorem w_833 : (.code yX8_answered cX8_answered 2 (some .int) : Cond) ∈ ALLW := List.mem_append_right _ (List.mem_append_right _ (List.mem_append_right _ (List.mem_append_right _ (List.mem_append_right _ (List.mem_append_right _ (List.mem_append_right _ (List.mem_append_right _ (List.mem_append_left _ (List.mem_of_getElem? (i := 33) rfl)))))))))
set_option maxRecDepth 100000 in
theorem w_834 : (.fieldLink RX8 181 "OldestFirst$Run" "doneOn" "[I" : Cond) ∈ ALLW := List.mem_append_right _ (List.mem_append_right _ (List.mem_append_right _ (List.mem_append_right _ (List.mem_append_right _ (List.mem_append_right _ (List.mem_append_right _ (List.mem_append_right _ (List.mem_append_left _ (List.mem_of_getElem? (i := 34) rfl)))))))))
set_option maxRecDepth 100000 in
theorem w_835 : (.methodLink RL 52 yX9_answered : Cond) ∈ ALLW := List.mem_append_right _ (List.mem_append_right _ (List.mem_append_right _ (List.mem_append_right _ (List.mem_append_right _ (List.mem_append_right _ (List.mem_append_right _ (List.mem_append_right _ (List.mem_append_left _ (List.mem_of_getElem? (i := 35) rfl)))))))))
set_option maxRecDepth 100000 in
theorem w_836 : (.instanceMethod yX9_answered : Cond) ∈ ALLW := List.mem_append_right _ (List.mem_append_right _ (List.mem_append_right _ (List.mem_append_right _ (List.mem_append_right _ (List.mem_append_right _ (List.mem_append_right _ (List.mem_append_right _ (List.mem_append_left _ (List.mem_of_getElem? (i := 36) rfl)))))))))
set_option maxRecDepth 100000 in
theorem w_837 : (.selects RX9 yX9_answered yX9_answered : Cond) ∈ ALLW := List.mem_append_right _ (List.mem_append_right _ (List.mem_append_right _ (List.mem_append_right _ (List.mem_append_right _ (List.mem_append_right _ (List.mem_append_right _ (List.mem_append_right _ (List.mem_append_left _ (List.mem_of_getElem? (i := 37) rfl)))))))))
set_option maxRecDepth 100000 in
theorem w_838 : (.code yX9_answered cX9_answered 2 (some .int) : Cond) ∈ ALLW := List.mem_append_right _ (List.mem_append_right _ (List.mem_append_right _ (List.mem_append_right _ (List.mem_append_right _ (List.mem_append_right _ (List.mem_append_right _ (List.mem_append_right _ (List.mem_append_left _ (List.mem_of_getElem? (i := 38) rfl)))))))))
set_option maxRecDepth 100000 in
theorem w_839 : (.methodLink RL 53 yX8_comes : Cond) ∈ ALLW := List.mem_append_right _ (List.mem_append_right _ (List.mem_append_right _ (List.mem_append_right _ (List.mem_append_right _ (List.mem_append_right _ (List.mem_append_right _ (List.mem_append_right _ (List.mem_append_left _ (List.mem_of_getElem? (i := 39) rfl)))))))))
set_option maxRecDepth 100000 in
theorem w_840 : (.instanceMethod yX8_comes : Cond) ∈ ALLW := List.mem_append_right _ (List.mem_append_right _ (List.mem_append_right _ (List.mem_append_right _ (List.mem_append_right _ (List.mem_append_right _ (List.mem_append_right _ (List.mem_append_right _ (List.mem_append_left _ (List.mem_of_getElem? (i := 40) rfl)))))))))
set_option maxRecDepth 100000 in
theorem w_841 : (.selects RX8 yX8_comes yX8_comes : Cond) ∈ ALLW := List.mem_append_right _ (List.mem_append_right _ (List.mem_append_right _ (List.mem_append_right _ (List.mem_append_right _ (List.mem_append_right _ (List.mem_append_right _ (List.mem_append_right _ (List.mem_append_left _ (List.mem_of_getElem? (i := 41) rfl)))))))))
set_option maxRecDepth 100000 in
theorem w_842 : (.code yX8_comes cX8_comes 3 (some .int) : Cond) ∈ ALLW := List.mem_append_right _ (List.mem_append_right _ (List.mem_append_right _ (List.mem_append_right _ (List.mem_append_right _ (List.mem_append_right _ (List.mem_append_right _ (List.mem_append_right _ (List.mem_append_left _ (List.mem_of_getElem? (i := 42) rfl)))))))))
set_option maxRecDepth 100000 in
theorem w_843 : (.fieldLink RX8 184 "OldestFirst$Town" "post" "I" : Cond) ∈ ALLW := List.mem_append_right _ (List.mem_append_right _ (List.mem_append_right _ (List.mem_append_right _ (List.mem_append_right _ (List.mem_append_right _ (List.mem_append_right _ (List.mem_append_right _ (List.mem_append_left _ (List.mem_of_getElem? (i := 43) rfl)))))))))
set_option maxRecDepth 100000 in
theorem w_844 : (.methodLink RX8 187 yX7_isDay : Cond) ∈ ALLW := List.mem_append_right _ (List.mem_append_right _ (List.mem_append_right _ (List.mem_append_right _ (List.mem_append_right _ (List.mem_append_right _ (List.mem_append_right _ (List.mem_append_right _ (List.mem_append_left _ (List.mem_of_getElem? (i := 44) rfl)))))))))
set_option maxRecDepth 100000 in
theorem w_845 : (.instanceMethod yX7_isDay : Cond) ∈ ALLW := List.mem_append_right _ (List.mem_append_right _ (List.mem_append_right _ (List.mem_append_right _ (List.mem_append_right _ (List.mem_append_right _ (List.mem_append_right _ (List.mem_append_right _ (List.mem_append_left _ (List.mem_of_getElem? (i := 45) rfl)))))))))
set_option maxRecDepth 100000 in
theorem w_846 : (.selects RX7 yX7_isDay yX7_isDay : Cond) ∈ ALLW := List.mem_append_right _ (List.mem_append_right _ (List.mem_append_right _ (List.mem_append_right _ (List.mem_append_right _ (List.mem_append_right _ (List.mem_append_right _ (List.mem_append_right _ (List.mem_append_left _ (List.mem_of_getElem? (i := 46) rfl)))))))))
set_option maxRecDepth 100000 in
theorem w_847 : (.code yX7_isDay cX7_isDay 2 (some .boolean) : Cond) ∈ ALLW := List.mem_append_right _ (List.mem_append_right _ (List.mem_append_right _ (List.mem_append_right _ (List.mem_append_right _ (List.mem_append_right _ (List.mem_append_right _ (List.mem_append_right _ (List.mem_append_left _ (List.mem_of_getElem? (i := 47) rfl)))))))))
set_option maxRecDepth 100000 in
theorem w_848 : (.methodLink RL 56 yX9_comes_ : Cond) ∈ ALLW := List.mem_append_right _ (List.mem_append_right _ (List.mem_append_right _ (List.mem_append_right _ (List.mem_append_right _ (List.mem_append_right _ (List.mem_append_right _ (List.mem_append_right _ (List.mem_append_left _ (List.mem_of_getElem? (i := 48) rfl)))))))))
set_option maxRecDepth 100000 in
theorem w_849 : (.instanceMethod yX9_comes_ : Cond) ∈ ALLW := List.mem_append_right _ (List.mem_append_right _ (List.mem_append_right _ (List.mem_append_right _ (List.mem_append_right _ (List.mem_append_right _ (List.mem_append_right _ (List.mem_append_right _ (List.mem_append_left _ (List.mem_of_getElem? (i := 49) rfl)))))))))
set_option maxRecDepth 100000 in
theorem w_850 : (.selects RX9 yX9_comes_ yX9_comes_ : Cond) ∈ ALLW := List.mem_append_right _ (List.mem_append_right _ (List.mem_append_right _ (List.mem_append_right _ (List.mem_append_right _ (List.mem_append_right _ (List.mem_append_right _ (List.mem_append_right _ (List.mem_append_left _ (List.mem_of_getElem? (i := 50) rfl)))))))))
set_option maxRecDepth 100000 in
theorem w_851 : (.code yX9_comes_ cX9_comes_ 2 (some .int) : Cond) ∈ ALLW := List.mem_append_right _ (List.mem_append_right _ (List.mem_append_right _ (List.mem_append_right _ (List.mem_append_right _ (List.mem_append_right _ (List.mem_append_right _ (List.mem_append_right _ (List.mem_append_left _ (List.mem_of_getElem? (i := 51) rfl)))))))))
set_option maxRecDepth 100000 in
theorem w_852 : (.methodLink RL 57 yX8_needs : Cond) ∈ ALLW := List.mem_append_right _ (List.mem_append_right _ (List.mem_append_right _ (List.mem_append_right _ (List.mem_append_right _ (List.mem_append_right _ (List.mem_append_right _ (List.mem_append_right _ (List.mem_append_left _ (List.mem_of_getElem? (i := 52) rfl)))))))))
set_option maxRecDepth 100000 in
theorem w_853 : (.instanceMethod yX8_needs : Cond) ∈ ALLW := List.mem_append_right _ (List.mem_append_right _ (List.mem_append_right _ (List.mem_append_right _ (List.mem_append_right _ (List.mem_append_right _ (List.mem_append_right _ (List.mem_append_right _ (List.mem_append_left _ (List.mem_of_getElem? (i := 53) rfl)))))))))
set_option maxRecDepth 100000 in
theorem w_854 : (.selects RX8 yX8_needs yX8_needs : Cond) ∈ ALLW := List.mem_append_right _ (List.mem_append_right _ (List.mem_append_right _ (List.mem_append_right _ (List.mem_append_right _ (List.mem_append_right _ (List.mem_append_right _ (List.mem_append_right _ (List.mem_append_left _ (List.mem_of_getElem? (i := 54) rfl)))))))))
set_option maxRecDepth 100000 in
theorem w_855 : (.code yX8_needs cX8_needs 3 (some .int) : Cond) ∈ ALLW := List.mem_append_right _ (List.mem_append_right _ (List.mem_append_right _ (List.mem_append_right _ (List.mem_append_right _ (List.mem_append_right _ (List.mem_append_right _ (List.mem_append_right _ (List.mem_append_left _ (List.mem_of_getElem? (i := 55) rfl)))))))))
set_option maxRecDepth 100000 in
theorem w_856 : (.fieldLink RX8 190 "OldestFirst$Diary" "needs" "[I" : Cond) ∈ ALLW := List.mem_append_right _ (List.mem_append_right _ (List.mem_append_right _ (List.mem_append_right _ (List.mem_append_right _ (List.mem_append_right _ (List.mem_append_right _ (List.mem_append_right _ (List.mem_append_left _ (List.mem_of_getElem? (i := 56) rfl)))))))))
set_option maxRecDepth 100000 in
theorem w_857 : (.methodLink RL 60 yX9_needs : Cond) ∈ ALLW := List.mem_append_right _ (List.mem_append_right _ (List.mem_append_right _ (List.mem_append_right _ (List.mem_append_right _ (List.mem_append_right _ (List.mem_append_right _ (List.mem_append_right _ (List.mem_append_left _ (List.mem_of_getElem? (i := 57) rfl)))))))))
set_option maxRecDepth 100000 in
theorem w_858 : (.instanceMethod yX9_needs : Cond) ∈ ALLW := List.mem_append_right _ (List.mem_append_right _ (List.mem_append_right _ (List.mem_append_right _ (List.mem_append_right _ (List.mem_append_right _ (List.mem_append_right _ (List.mem_append_right _ (List.mem_append_left _ (List.mem_of_getElem? (i := 58) rfl)))))))))
set_option maxRecDepth 100000 in
theorem w_859 : (.selects RX9 yX9_needs yX9_needs : Cond) ∈ ALLW := List.mem_append_right _ (List.mem_append_right _ (List.mem_append_right _ (List.mem_append_right _ (List.mem_append_right _ (List.mem_append_right _ (List.mem_append_right _ (List.mem_append_right _ (List.mem_append_left _ (List.mem_of_getElem? (i := 59) rfl)))))))))
set_option maxRecDepth 100000 in
theorem w_860 : (.code yX9_needs cX9_needs 3 (some .int) : Cond) ∈ ALLW := List.mem_append_right _ (List.mem_append_right _ (List.mem_append_right _ (List.mem_append_right _ (List.mem_append_right _ (List.mem_append_right _ (List.mem_append_right _ (List.mem_append_right _ (List.mem_append_left _ (List.mem_of_getElem? (i := 60) rfl)))))))))
set_option maxRecDepth 100000 in
theorem w_861 : (.methodLink RX9 407 yX9_isDay : Cond) ∈ ALLW := List.mem_append_right _ (List.mem_append_right _ (List.mem_append_right _ (List.mem_append_right _ (List.mem_append_right _ (List.mem_append_right _ (List.mem_append_right _ (List.mem_append_right _ (List.mem_append_left _ (List.mem_of_getElem? (i := 61) rfl)))))))))
set_option maxRecDepth 100000 in
theorem w_862 : (.instanceMethod yX9_isDay : Cond) ∈ ALLW := List.mem_append_right _ (List.mem_append_right _ (List.mem_append_right _ (List.mem_append_right _ (List.mem_append_right _ (List.mem_append_right _ (List.mem_append_right _ (List.mem_append_right _ (List.mem_append_left _ (List.mem_of_getElem? (i := 62) rfl)))))))))
set_option maxRecDepth 100000 in
theorem w_863 : (.selects RX9 yX9_isDay yX9_isDay : Cond) ∈ ALLW := List.mem_append_right _ (List.mem_append_right _ (List.mem_append_right _ (List.mem_append_right _ (List.mem_append_right _ (List.mem_append_right _ (List.mem_append_right _ (List.mem_append_right _ (List.mem_append_left _ (List.mem_of_getElem? (i := 63) rfl)))))))))
set_option maxRecDepth 100000 in
theorem w_864 : (.code yX9_isDay cX9_isDay 2 (some .boolean) : Cond) ∈ ALLW := List.mem_append_right _ (List.mem_append_right _ (List.mem_append_right _ (List.mem_append_right _ (List.mem_append_right _ (List.mem_append_right _ (List.mem_append_right _ (List.mem_append_right _ (List.mem_append_left _ (List.mem_of_getElem? (i := 64) rfl)))))))))
set_option maxRecDepth 100000 in
theorem w_865 : (.methodLink RL 61 yX8_pile : Cond) ∈ ALLW := List.mem_append_right _ (List.mem_append_right _ (List.mem_append_right _ (List.mem_append_right _ (List.mem_append_right _ (List.mem_append_right _ (List.mem_append_right _ (List.mem_append_right _ (List.mem_append_left _ (List.mem_of_getElem? (i := 65) rfl)))))))))
set_option maxRecDepth 100000 in
theorem w_866 : (.instanceMethod yX8_pile : Cond) ∈ ALLW := List.mem_append_right _ (List.mem_append_right _ (List.mem_append_right _ (List.mem_append_right _ (List.mem_append_right _ (List.mem_append_right _ (List.mem_append_right _ (List.mem_append_right _ (List.mem_append_left _ (List.mem_of_getElem? (i := 66) rfl)))))))))
set_option maxRecDepth 100000 in
theorem w_867 : (.selects RX8 yX8_pile yX8_pile : Cond) ∈ ALLW := List.mem_append_right _ (List.mem_append_right _ (List.mem_append_right _ (List.mem_append_right _ (List.mem_append_right _ (List.mem_append_right _ (List.mem_append_right _ (List.mem_append_right _ (List.mem_append_left _ (List.mem_of_getElem? (i := 67) rfl)))))))))
set_option maxRecDepth 100000 in
theorem w_868 : (.code yX8_pile cX8_pile 3 (some .long) : Cond) ∈ ALLW := List.mem_append_right _ (List.mem_append_right _ (List.mem_append_right _ (List.mem_append_right _ (List.mem_append_right _ (List.mem_append_right _ (List.mem_append_right _ (List.mem_append_right _ (List.mem_append_left _ (List.mem_of_getElem? (i := 68) rfl)))))))))
set_option maxRecDepth 100000 in
theorem w_869 : (.constantLong RX8 193 (-2) : Cond) ∈ ALLW := List.mem_append_right _ (List.mem_append_right _ (List.mem_append_right _ (List.mem_append_right _ (List.mem_append_right _ (List.mem_append_right _ (List.mem_append_right _ (List.mem_append_right _ (List.mem_append_left _ (List.mem_of_getElem? (i := 69) rfl)))))))))
set_option maxRecDepth 100000 in
theorem w_870 : (.fieldLink RX8 195 "OldestFirst$Diary" "piles" "[J" : Cond) ∈ ALLW := List.mem_append_right _ (List.mem_append_right _ (List.mem_append_right _ (List.mem_append_right _ (List.mem_append_right _ (List.mem_append_right _ (List.mem_append_right _ (List.mem_append_right _ (List.mem_append_left _ (List.mem_of_getElem? (i := 70) rfl)))))))))
set_option maxRecDepth 100000 in
theorem w_871 : (.methodLink RL 65 yX9_pile : Cond) ∈ ALLW := List.mem_append_right _ (List.mem_append_right _ (List.mem_append_right _ (List.mem_append_right _ (List.mem_append_right _ (List.mem_append_right _ (List.mem_append_right _ (List.mem_append_right _ (List.mem_append_left _ (List.mem_of_getElem? (i := 71) rfl)))))))))
set_option maxRecDepth 100000 in
theorem w_872 : (.instanceMethod yX9_pile : Cond) ∈ ALLW := List.mem_append_right _ (List.mem_append_right _ (List.mem_append_right _ (List.mem_append_right _ (List.mem_append_right _ (List.mem_append_right _ (List.mem_append_right _ (List.mem_append_right _ (List.mem_append_left _ (List.mem_of_getElem? (i := 72) rfl)))))))))
set_option maxRecDepth 100000 in
theorem w_873 : (.selects RX9 yX9_pile yX9_pile : Cond) ∈ ALLW := List.mem_append_right _ (List.mem_append_right _ (List.mem_append_right _ (List.mem_append_right _ (List.mem_append_right _ (List.mem_append_right _ (List.mem_append_right _ (List.mem_append_right _ (List.mem_append_left _ (List.mem_of_getElem? (i := 73) rfl)))))))))
set_option maxRecDepth 100000 in
theorem w_874 : (.code yX9_pile cX9_pile 6 (some .long) : Cond) ∈ ALLW := List.mem_append_right _ (List.mem_append_right _ (List.mem_append_right _ (List.mem_append_right _ (List.mem_append_right _ (List.mem_append_right _ (List.mem_append_right _ (List.mem_append_right _ (List.mem_append_left _ (List.mem_of_getElem? (i := 74) rfl)))))))))
set_option maxRecDepth 100000 in
theorem w_875 : (.constantLong RX9 410 (-2) : Cond) ∈ ALLW := List.mem_append_right _ (List.mem_append_right _ (List.mem_append_right _ (List.mem_append_right _ (List.mem_append_right _ (List.mem_append_right _ (List.mem_append_right _ (List.mem_append_right _ (List.mem_append_left _ (List.mem_of_getElem? (i := 75) rfl)))))))))
set_option maxRecDepth 100000 in
theorem w_876 : (.methodLink RX9 412 yX9_liesOn : Cond) ∈ ALLW := List.mem_append_right _ (List.mem_append_right _ (List.mem_append_right _ (List.mem_append_right _ (List.mem_append_right _ (List.mem_append_right _ (List.mem_append_right _ (List.mem_append_right _ (List.mem_append_left _ (List.mem_of_getElem? (i := 76) rfl)))))))))
set_option maxRecDepth 100000 in
theorem w_877 : (.instanceMethod yX9_liesOn : Cond) ∈ ALLW := List.mem_append_right _ (List.mem_append_right _ (List.mem_append_right _ (List.mem_append_right _ (List.mem_append_right _ (List.mem_append_right _ (List.mem_append_right _ (List.mem_append_right _ (List.mem_append_left _ (List.mem_of_getElem? (i := 77) rfl)))))))))
set_option maxRecDepth 100000 in
theorem w_878 : (.selects RX9 yX9_liesOn yX9_liesOn : Cond) ∈ ALLW := List.mem_append_right _ (List.mem_append_right _ (List.mem_append_right _ (List.mem_append_right _ (List.mem_append_right _ (List.mem_append_right _ (List.mem_append_right _ (List.mem_append_right _ (List.mem_append_left _ (List.mem_of_getElem? (i := 78) rfl)))))))))
set_option maxRecDepth 100000 in
theorem w_879 : (.code yX9_liesOn cX9_liesOn 4 (some .boolean) : Cond) ∈ ALLW := List.mem_append_right _ (List.mem_append_right _ (List.mem_append_right _ (List.mem_append_right _ (List.mem_append_right _ (List.mem_append_right _ (List.mem_append_right _ (List.mem_append_right _ (List.mem_append_left _ (List.mem_of_getElem? (i := 79) rfl)))))))))
set_option maxRecDepth 100000 in
theorem w_880 : (.methodLink RL 66 yX8_idle : Cond) ∈ ALLW := List.mem_append_right _ (List.mem_append_right _ (List.mem_append_right _ (List.mem_append_right _ (List.mem_append_right _ (List.mem_append_right _ (List.mem_append_right _ (List.mem_append_right _ (List.mem_append_left _ (List.mem_of_getElem? (i := 80) rfl)))))))))
set_option maxRecDepth 100000 in
theorem w_881 : (.instanceMethod yX8_idle : Cond) ∈ ALLW := List.mem_append_right _ (List.mem_append_right _ (List.mem_append_right _ (List.mem_append_right _ (List.mem_append_right _ (List.mem_append_right _ (List.mem_append_right _ (List.mem_append_right _ (List.mem_append_left _ (List.mem_of_getElem? (i := 81) rfl)))))))))
set_option maxRecDepth 100000 in
theorem w_882 : (.selects RX8 yX8_idle yX8_idle : Cond) ∈ ALLW := List.mem_append_right _ (List.mem_append_right _ (List.mem_append_right _ (List.mem_append_right _ (List.mem_append_right _ (List.mem_append_right _ (List.mem_append_right _ (List.mem_append_right _ (List.mem_append_left _ (List.mem_of_getElem? (i := 82) rfl)))))))))
set_option maxRecDepth 100000 in
theorem w_883 : (.code yX8_idle cX8_idle 3 (some .int) : Cond) ∈ ALLW := List.mem_append_right _ (List.mem_append_right _ (List.mem_append_right _ (List.mem_append_right _ (List.mem_append_right _ (List.mem_append_right _ (List.mem_append_right _ (List.mem_append_right _ (List.mem_append_left _ (List.mem_of_getElem? (i := 83) rfl)))))))))
set_option maxRecDepth 100000 in
theorem w_884 : (.fieldLink RX8 199 "OldestFirst$Diary" "idle" "[I" : Cond) ∈ ALLW := List.mem_append_right _ (List.mem_append_right _ (List.mem_append_right _ (List.mem_append_right _ (List.mem_append_right _ (List.mem_append_right _ (List.mem_append_right _ (List.mem_append_right _ (List.mem_append_left _ (List.mem_of_getElem? (i := 84) rfl)))))))))
set_option maxRecDepth 100000 in
theorem w_885 : (.methodLink RL 69 yX9_idle : Cond) ∈ ALLW := List.mem_append_right _ (List.mem_append_right _ (List.mem_append_right _ (List.mem_append_right _ (List.mem_append_right _ (List.mem_append_right _ (List.mem_append_right _ (List.mem_append_right _ (List.mem_append_left _ (List.mem_of_getElem? (i := 85) rfl)))))))))
set_option maxRecDepth 100000 in
theorem w_886 : (.instanceMethod yX9_idle : Cond) ∈ ALLW := List.mem_append_right _ (List.mem_append_right _ (List.mem_append_right _ (List.mem_append_right _ (List.mem_append_right _ (List.mem_append_right _ (List.mem_append_right _ (List.mem_append_right _ (List.mem_append_left _ (List.mem_of_getElem? (i := 86) rfl)))))))))
set_option maxRecDepth 100000 in
theorem w_887 : (.selects RX9 yX9_idle yX9_idle : Cond) ∈ ALLW := List.mem_append_right _ (List.mem_append_right _ (List.mem_append_right _ (List.mem_append_right _ (List.mem_append_right _ (List.mem_append_right _ (List.mem_append_right _ (List.mem_append_right _ (List.mem_append_left _ (List.mem_of_getElem? (i := 87) rfl)))))))))
set_option maxRecDepth 100000 in
theorem w_888 : (.code yX9_idle cX9_idle 3 (some .int) : Cond) ∈ ALLW := List.mem_append_right _ (List.mem_append_right _ (List.mem_append_right _ (List.mem_append_right _ (List.mem_append_right _ (List.mem_append_right _ (List.mem_append_right _ (List.mem_append_right _ (List.mem_append_left _ (List.mem_of_getElem? (i := 88) rfl)))))))))
set_option maxRecDepth 100000 in
theorem w_889 : (.methodLink RL 70 yX8_waits : Cond) ∈ ALLW := List.mem_append_right _ (List.mem_append_right _ (List.mem_append_right _ (List.mem_append_right _ (List.mem_append_right _ (List.mem_append_right _ (List.mem_append_right _ (List.mem_append_right _ (List.mem_append_left _ (List.mem_of_getElem? (i := 89) rfl)))))))))
set_option maxRecDepth 100000 in
theorem w_890 : (.instanceMethod yX8_waits : Cond) ∈ ALLW := List.mem_append_right _ (List.mem_append_right _ (List.mem_append_right _ (List.mem_append_right _ (List.mem_append_right _ (List.mem_append_right _ (List.mem_append_right _ (List.mem_append_right _ (List.mem_append_left _ (List.mem_of_getElem? (i := 90) rfl)))))))))
set_option maxRecDepth 100000 in
theorem w_891 : (.selects RX8 yX8_waits yX8_waits : Cond) ∈ ALLW := List.mem_append_right _ (List.mem_append_right _ (List.mem_append_right _ (List.mem_append_right _ (List.mem_append_right _ (List.mem_append_right _ (List.mem_append_right _ (List.mem_append_right _ (List.mem_append_left _ (List.mem_of_getElem? (i := 91) rfl)))))))))
