set_option maxRecDepth 100000 in
theorem z590 : wZ (.selects RX10 yX10_lay yX10_lay) := ⟨wT4 (List.mem_of_getElem? (i := 74) (by decide +kernel)), Or.inl rfl⟩
set_option maxRecDepth 100000 in
theorem z591 : wZ (.instanceMethod yX10_lay) := ⟨wT4 (List.mem_of_getElem? (i := 73) (by decide +kernel)), Or.inl rfl⟩
set_option maxRecDepth 100000 in
theorem z592 : wZ (.methodLink RL 69 yX10_lay) := ⟨wT4 (List.mem_of_getElem? (i := 72) (by decide +kernel)), Or.inl rfl⟩
set_option maxRecDepth 100000 in
theorem z593 : wZ (.code yX8_againstTake cX8_againstTake 3 (some .int)) := ⟨wT2 (List.mem_of_getElem? (i := 141) rfl), Or.inl rfl⟩
set_option maxRecDepth 100000 in
theorem z594 : wZ (.static yX8_againstTake) := ⟨wT2 (List.mem_of_getElem? (i := 140) (by decide +kernel)), Or.inl rfl⟩
set_option maxRecDepth 100000 in
theorem z595 : wZ (.methodLink RX8 73 yX8_againstTake) := ⟨wT2 (List.mem_of_getElem? (i := 139) (by decide +kernel)), Or.inl rfl⟩
set_option maxRecDepth 100000 in
theorem z596 : wZ (.code yX10_take cX10_take 2 (some .int)) := ⟨wT4 (List.mem_of_getElem? (i := 79) rfl), Or.inl rfl⟩
set_option maxRecDepth 100000 in
theorem z597 : wZ (.code yX12_take cX12_take 2 (some .int)) := ⟨wT6 (List.mem_of_getElem? (i := 167) rfl), Or.inl rfl⟩
set_option maxRecDepth 100000 in
theorem z598 : wZ (.selects RX12 yX12_take yX12_take) := ⟨wT6 (List.mem_of_getElem? (i := 166) (by decide +kernel)), Or.inl rfl⟩
set_option maxRecDepth 100000 in
theorem z599 : wZ (.instanceMethod yX12_take) := ⟨wT6 (List.mem_of_getElem? (i := 165) (by decide +kernel)), Or.inl rfl⟩
set_option maxRecDepth 100000 in
theorem z600 : wZ (.methodLink RL 76 yX12_take) := ⟨wT6 (List.mem_of_getElem? (i := 164) (by decide +kernel)), Or.inl rfl⟩
set_option maxRecDepth 100000 in
theorem z601 : wZ (.selects RX10 yX10_take yX10_take) := ⟨wT4 (List.mem_of_getElem? (i := 78) (by decide +kernel)), Or.inl rfl⟩
set_option maxRecDepth 100000 in
theorem z602 : wZ (.instanceMethod yX10_take) := ⟨wT4 (List.mem_of_getElem? (i := 77) (by decide +kernel)), Or.inl rfl⟩
set_option maxRecDepth 100000 in
theorem z603 : wZ (.methodLink RL 73 yX10_take) := ⟨wT4 (List.mem_of_getElem? (i := 76) (by decide +kernel)), Or.inl rfl⟩
set_option maxRecDepth 100000 in
theorem z604 : wZ (.code yX8_againstMove cX8_againstMove 4 (some .int)) := ⟨wT2 (List.mem_of_getElem? (i := 147) rfl), Or.inl rfl⟩
set_option maxRecDepth 100000 in
theorem z605 : wZ (.static yX8_againstMove) := ⟨wT2 (List.mem_of_getElem? (i := 146) (by decide +kernel)), Or.inl rfl⟩
set_option maxRecDepth 100000 in
theorem z606 : wZ (.methodLink RX8 76 yX8_againstMove) := ⟨wT2 (List.mem_of_getElem? (i := 145) (by decide +kernel)), Or.inl rfl⟩
set_option maxRecDepth 100000 in
theorem z607 : wZ (.code yX8_againstOnMotion cX8_againstOnMotion 6 (some .int)) := ⟨wT2 (List.mem_of_getElem? (i := 144) rfl), Or.inl rfl⟩
set_option maxRecDepth 100000 in
theorem z608 : wZ (.static yX8_againstOnMotion) := ⟨wT2 (List.mem_of_getElem? (i := 143) (by decide +kernel)), Or.inl rfl⟩
set_option maxRecDepth 100000 in
theorem z609 : wZ (.methodLink RX8 19 yX8_againstOnMotion) := ⟨wT2 (List.mem_of_getElem? (i := 142) (by decide +kernel)), Or.inl rfl⟩
set_option maxRecDepth 100000 in
theorem z610 : wZ (.code yX10_move cX10_move 2 (some .int)) := ⟨wT4 (List.mem_of_getElem? (i := 83) rfl), Or.inl rfl⟩
set_option maxRecDepth 100000 in
theorem z611 : wZ (.code yX11_reasonOfMove cX11_reasonOfMove 7 (some .int)) := ⟨wT6 (List.mem_of_getElem? (i := 44) rfl), Or.inl rfl⟩
set_option maxRecDepth 100000 in
theorem z612 : wZ (.selects RX11 yX11_reasonOfMove yX11_reasonOfMove) := ⟨wT6 (List.mem_of_getElem? (i := 43) (by decide +kernel)), Or.inl rfl⟩
set_option maxRecDepth 100000 in
theorem z613 : wZ (.instanceMethod yX11_reasonOfMove) := ⟨wT6 (List.mem_of_getElem? (i := 42) (by decide +kernel)), Or.inl rfl⟩
set_option maxRecDepth 100000 in
theorem z614 : wZ (.methodLink RX11 175 yX11_reasonOfMove) := ⟨wT6 (List.mem_of_getElem? (i := 41) (by decide +kernel)), Or.inl rfl⟩
set_option maxRecDepth 100000 in
theorem z615 : wZ (.code yX12_move cX12_move 2 (some .int)) := ⟨wT6 (List.mem_of_getElem? (i := 171) rfl), Or.inl rfl⟩
set_option maxRecDepth 100000 in
theorem z616 : wZ (.selects RX12 yX12_move yX12_move) := ⟨wT6 (List.mem_of_getElem? (i := 170) (by decide +kernel)), Or.inl rfl⟩
set_option maxRecDepth 100000 in
theorem z617 : wZ (.instanceMethod yX12_move) := ⟨wT6 (List.mem_of_getElem? (i := 169) (by decide +kernel)), Or.inl rfl⟩
set_option maxRecDepth 100000 in
theorem z618 : wZ (.methodLink RL 80 yX12_move) := ⟨wT6 (List.mem_of_getElem? (i := 168) (by decide +kernel)), Or.inl rfl⟩
set_option maxRecDepth 100000 in
theorem z619 : wZ (.selects RX10 yX10_move yX10_move) := ⟨wT4 (List.mem_of_getElem? (i := 82) (by decide +kernel)), Or.inl rfl⟩
set_option maxRecDepth 100000 in
theorem z620 : wZ (.instanceMethod yX10_move) := ⟨wT4 (List.mem_of_getElem? (i := 81) (by decide +kernel)), Or.inl rfl⟩
set_option maxRecDepth 100000 in
theorem z621 : wZ (.methodLink RL 77 yX10_move) := ⟨wT4 (List.mem_of_getElem? (i := 80) (by decide +kernel)), Or.inl rfl⟩
set_option maxRecDepth 100000 in
theorem z622 : wZ (.fieldLink RX8 79 "MotionFloor$House" "chair" "I") := ⟨wT1 (List.mem_of_getElem? (i := 43) (by decide +kernel)), Or.inl rfl⟩
set_option maxRecDepth 100000 in
theorem z623 : wZ (.code yX10_second cX10_second 2 (some .int)) := ⟨wT4 (List.mem_of_getElem? (i := 87) rfl), Or.inl rfl⟩
set_option maxRecDepth 100000 in
theorem z624 : wZ (.code yX12_second cX12_second 2 (some .int)) := ⟨wT6 (List.mem_of_getElem? (i := 175) rfl), Or.inl rfl⟩
set_option maxRecDepth 100000 in
theorem z625 : wZ (.selects RX12 yX12_second yX12_second) := ⟨wT6 (List.mem_of_getElem? (i := 174) (by decide +kernel)), Or.inl rfl⟩
set_option maxRecDepth 100000 in
theorem z626 : wZ (.instanceMethod yX12_second) := ⟨wT6 (List.mem_of_getElem? (i := 173) (by decide +kernel)), Or.inl rfl⟩
set_option maxRecDepth 100000 in
theorem z627 : wZ (.methodLink RL 84 yX12_second) := ⟨wT6 (List.mem_of_getElem? (i := 172) (by decide +kernel)), Or.inl rfl⟩
set_option maxRecDepth 100000 in
theorem z628 : wZ (.selects RX10 yX10_second yX10_second) := ⟨wT4 (List.mem_of_getElem? (i := 86) (by decide +kernel)), Or.inl rfl⟩
set_option maxRecDepth 100000 in
theorem z629 : wZ (.instanceMethod yX10_second) := ⟨wT4 (List.mem_of_getElem? (i := 85) (by decide +kernel)), Or.inl rfl⟩
set_option maxRecDepth 100000 in
theorem z630 : wZ (.methodLink RL 81 yX10_second) := ⟨wT4 (List.mem_of_getElem? (i := 84) (by decide +kernel)), Or.inl rfl⟩
set_option maxRecDepth 100000 in
theorem z631 : wZ (.code yX10_vote cX10_vote 3 (some .int)) := ⟨wT4 (List.mem_of_getElem? (i := 91) rfl), Or.inl rfl⟩
set_option maxRecDepth 100000 in
theorem z632 : wZ (.code yX12_vote cX12_vote 3 (some .int)) := ⟨wT6 (List.mem_of_getElem? (i := 179) rfl), Or.inl rfl⟩
set_option maxRecDepth 100000 in
theorem z633 : wZ (.selects RX12 yX12_vote yX12_vote) := ⟨wT6 (List.mem_of_getElem? (i := 178) (by decide +kernel)), Or.inl rfl⟩
set_option maxRecDepth 100000 in
theorem z634 : wZ (.instanceMethod yX12_vote) := ⟨wT6 (List.mem_of_getElem? (i := 177) (by decide +kernel)), Or.inl rfl⟩
set_option maxRecDepth 100000 in
theorem z635 : wZ (.methodLink RL 88 yX12_vote) := ⟨wT6 (List.mem_of_getElem? (i := 176) (by decide +kernel)), Or.inl rfl⟩
set_option maxRecDepth 100000 in
theorem z636 : wZ (.selects RX10 yX10_vote yX10_vote) := ⟨wT4 (List.mem_of_getElem? (i := 90) (by decide +kernel)), Or.inl rfl⟩
set_option maxRecDepth 100000 in
theorem z637 : wZ (.instanceMethod yX10_vote) := ⟨wT4 (List.mem_of_getElem? (i := 89) (by decide +kernel)), Or.inl rfl⟩
set_option maxRecDepth 100000 in
theorem z638 : wZ (.methodLink RL 85 yX10_vote) := ⟨wT4 (List.mem_of_getElem? (i := 88) (by decide +kernel)), Or.inl rfl⟩
set_option maxRecDepth 100000 in
theorem z639 : wZ (.code yX10_withdraw cX10_withdraw 2 (some .int)) := ⟨wT4 (List.mem_of_getElem? (i := 95) rfl), Or.inl rfl⟩
set_option maxRecDepth 100000 in
theorem z640 : wZ (.code yX12_withdraw cX12_withdraw 2 (some .int)) := ⟨wT6 (List.mem_of_getElem? (i := 183) rfl), Or.inl rfl⟩
set_option maxRecDepth 100000 in
theorem z641 : wZ (.selects RX12 yX12_withdraw yX12_withdraw) := ⟨wT6 (List.mem_of_getElem? (i := 182) (by decide +kernel)), Or.inl rfl⟩
set_option maxRecDepth 100000 in
theorem z642 : wZ (.instanceMethod yX12_withdraw) := ⟨wT6 (List.mem_of_getElem? (i := 181) (by decide +kernel)), Or.inl rfl⟩
set_option maxRecDepth 100000 in
theorem z643 : wZ (.methodLink RL 92 yX12_withdraw) := ⟨wT6 (List.mem_of_getElem? (i := 180) (by decide +kernel)), Or.inl rfl⟩
set_option maxRecDepth 100000 in
theorem z644 : wZ (.selects RX10 yX10_withdraw yX10_withdraw) := ⟨wT4 (List.mem_of_getElem? (i := 94) (by decide +kernel)), Or.inl rfl⟩
set_option maxRecDepth 100000 in
theorem z645 : wZ (.instanceMethod yX10_withdraw) := ⟨wT4 (List.mem_of_getElem? (i := 93) (by decide +kernel)), Or.inl rfl⟩
set_option maxRecDepth 100000 in
theorem z646 : wZ (.methodLink RL 89 yX10_withdraw) := ⟨wT4 (List.mem_of_getElem? (i := 92) (by decide +kernel)), Or.inl rfl⟩
set_option maxRecDepth 100000 in
theorem z647 : wZ (.code yX10_rule cX10_rule 1 (some .int)) := ⟨wT4 (List.mem_of_getElem? (i := 99) rfl), Or.inl rfl⟩
set_option maxRecDepth 100000 in
theorem z648 : wZ (.code yX11_isHere cX11_isHere 2 (some .boolean)) := ⟨wT6 (List.mem_of_getElem? (i := 52) rfl), Or.inl rfl⟩
set_option maxRecDepth 100000 in
theorem z649 : wZ (.selects RX11 yX11_isHere yX11_isHere) := ⟨List.mem_append_left _ (List.mem_of_getElem? (i := 12) (by decide +kernel)), Or.inl rfl⟩
set_option maxRecDepth 100000 in
theorem z650 : wZ (.instanceMethod yX11_isHere) := ⟨wT6 (List.mem_of_getElem? (i := 51) (by decide +kernel)), Or.inl rfl⟩
set_option maxRecDepth 100000 in
theorem z651 : wZ (.methodLink RX11 178 yX11_isHere) := ⟨wT6 (List.mem_of_getElem? (i := 49) (by decide +kernel)), Or.inl rfl⟩
set_option maxRecDepth 100000 in
theorem z652 : wZ (.code yX12_rule cX12_rule 1 (some .int)) := ⟨wT6 (List.mem_of_getElem? (i := 187) rfl), Or.inl rfl⟩
set_option maxRecDepth 100000 in
theorem z653 : wZ (.selects RX12 yX12_rule yX12_rule) := ⟨wT6 (List.mem_of_getElem? (i := 186) (by decide +kernel)), Or.inl rfl⟩
set_option maxRecDepth 100000 in
theorem z654 : wZ (.instanceMethod yX12_rule) := ⟨wT6 (List.mem_of_getElem? (i := 185) (by decide +kernel)), Or.inl rfl⟩
set_option maxRecDepth 100000 in
theorem z655 : wZ (.methodLink RL 96 yX12_rule) := ⟨wT6 (List.mem_of_getElem? (i := 184) (by decide +kernel)), Or.inl rfl⟩
set_option maxRecDepth 100000 in
theorem z656 : wZ (.selects RX10 yX10_rule yX10_rule) := ⟨wT4 (List.mem_of_getElem? (i := 98) (by decide +kernel)), Or.inl rfl⟩
set_option maxRecDepth 100000 in
theorem z657 : wZ (.instanceMethod yX10_rule) := ⟨wT4 (List.mem_of_getElem? (i := 97) (by decide +kernel)), Or.inl rfl⟩
set_option maxRecDepth 100000 in
theorem z658 : wZ (.methodLink RL 93 yX10_rule) := ⟨wT4 (List.mem_of_getElem? (i := 96) (by decide +kernel)), Or.inl rfl⟩
set_option maxRecDepth 100000 in
theorem z659 : wZ (.code yX10_appeal cX10_appeal 2 (some .int)) := ⟨wT4 (List.mem_of_getElem? (i := 103) rfl), Or.inl rfl⟩
set_option maxRecDepth 100000 in
theorem z660 : wZ (.code yX12_appeal cX12_appeal 2 (some .int)) := ⟨wT6 (List.mem_of_getElem? (i := 191) rfl), Or.inl rfl⟩
set_option maxRecDepth 100000 in
theorem z661 : wZ (.selects RX12 yX12_appeal yX12_appeal) := ⟨wT6 (List.mem_of_getElem? (i := 190) (by decide +kernel)), Or.inl rfl⟩
set_option maxRecDepth 100000 in
theorem z662 : wZ (.instanceMethod yX12_appeal) := ⟨wT6 (List.mem_of_getElem? (i := 189) (by decide +kernel)), Or.inl rfl⟩
set_option maxRecDepth 100000 in
theorem z663 : wZ (.methodLink RL 100 yX12_appeal) := ⟨wT6 (List.mem_of_getElem? (i := 188) (by decide +kernel)), Or.inl rfl⟩
set_option maxRecDepth 100000 in
theorem z664 : wZ (.selects RX10 yX10_appeal yX10_appeal) := ⟨wT4 (List.mem_of_getElem? (i := 102) (by decide +kernel)), Or.inl rfl⟩
set_option maxRecDepth 100000 in
theorem z665 : wZ (.instanceMethod yX10_appeal) := ⟨wT4 (List.mem_of_getElem? (i := 101) (by decide +kernel)), Or.inl rfl⟩
set_option maxRecDepth 100000 in
theorem z666 : wZ (.methodLink RL 97 yX10_appeal) := ⟨wT4 (List.mem_of_getElem? (i := 100) (by decide +kernel)), Or.inl rfl⟩
set_option maxRecDepth 100000 in
theorem z667 : wZ (.code yX10_told cX10_told 1 (some .int)) := ⟨wT4 (List.mem_of_getElem? (i := 107) rfl), Or.inl rfl⟩
set_option maxRecDepth 100000 in
theorem z668 : wZ (.code yX12_told cX12_told 1 (some .int)) := ⟨wT6 (List.mem_of_getElem? (i := 195) rfl), Or.inl rfl⟩
set_option maxRecDepth 100000 in
theorem z669 : wZ (.selects RX12 yX12_told yX12_told) := ⟨wT6 (List.mem_of_getElem? (i := 194) (by decide +kernel)), Or.inl rfl⟩
set_option maxRecDepth 100000 in
theorem z670 : wZ (.instanceMethod yX12_told) := ⟨wT6 (List.mem_of_getElem? (i := 193) (by decide +kernel)), Or.inl rfl⟩
set_option maxRecDepth 100000 in
theorem z671 : wZ (.methodLink RL 104 yX12_told) := ⟨wT6 (List.mem_of_getElem? (i := 192) (by decide +kernel)), Or.inl rfl⟩
set_option maxRecDepth 100000 in
theorem z672 : wZ (.selects RX10 yX10_told yX10_told) := ⟨wT4 (List.mem_of_getElem? (i := 106) (by decide +kernel)), Or.inl rfl⟩
set_option maxRecDepth 100000 in
theorem z673 : wZ (.instanceMethod yX10_told) := ⟨wT4 (List.mem_of_getElem? (i := 105) (by decide +kernel)), Or.inl rfl⟩
set_option maxRecDepth 100000 in
theorem z674 : wZ (.methodLink RL 101 yX10_told) := ⟨wT4 (List.mem_of_getElem? (i := 104) (by decide +kernel)), Or.inl rfl⟩
set_option maxRecDepth 100000 in
theorem z675 : wZ (.code yX10_adjourn cX10_adjourn 1 (some .int)) := ⟨wT4 (List.mem_of_getElem? (i := 111) rfl), Or.inl rfl⟩
set_option maxRecDepth 100000 in
theorem z676 : wZ (.code yX12_adjourn cX12_adjourn 1 (some .int)) := ⟨wT6 (List.mem_of_getElem? (i := 199) rfl), Or.inl rfl⟩
set_option maxRecDepth 100000 in
theorem z677 : wZ (.selects RX12 yX12_adjourn yX12_adjourn) := ⟨wT6 (List.mem_of_getElem? (i := 198) (by decide +kernel)), Or.inl rfl⟩
set_option maxRecDepth 100000 in
theorem z678 : wZ (.instanceMethod yX12_adjourn) := ⟨wT6 (List.mem_of_getElem? (i := 197) (by decide +kernel)), Or.inl rfl⟩
set_option maxRecDepth 100000 in
theorem z679 : wZ (.methodLink RL 108 yX12_adjourn) := ⟨wT6 (List.mem_of_getElem? (i := 196) (by decide +kernel)), Or.inl rfl⟩
set_option maxRecDepth 100000 in
theorem z680 : wZ (.selects RX10 yX10_adjourn yX10_adjourn) := ⟨wT4 (List.mem_of_getElem? (i := 110) (by decide +kernel)), Or.inl rfl⟩
set_option maxRecDepth 100000 in
theorem z681 : wZ (.instanceMethod yX10_adjourn) := ⟨wT4 (List.mem_of_getElem? (i := 109) (by decide +kernel)), Or.inl rfl⟩
set_option maxRecDepth 100000 in
theorem z682 : wZ (.methodLink RL 105 yX10_adjourn) := ⟨wT4 (List.mem_of_getElem? (i := 108) (by decide +kernel)), Or.inl rfl⟩
set_option maxRecDepth 100000 in
theorem z683 : wZ (.fieldLink RX10 42 "MotionFloor$Assembly" "reason" "I") := ⟨wT1 (List.mem_of_getElem? (i := 210) (by decide +kernel)), Or.inl rfl⟩
set_option maxRecDepth 100000 in
theorem z684 : wZ (.methodLink RX10 36 yX8_against) := ⟨wT4 (List.mem_of_getElem? (i := 116) (by decide +kernel)), Or.inl rfl⟩
set_option maxRecDepth 100000 in
theorem z685 : wZ (.code yX10_order cX10_order 2 (some .int)) := ⟨wT4 (List.mem_of_getElem? (i := 115) rfl), Or.inl rfl⟩
set_option maxRecDepth 100000 in
theorem z686 : wZ (.fieldLink RX12 52 "MotionFloorModel$Hall" "why" "I") := ⟨wT5 (List.mem_of_getElem? (i := 55) (by decide +kernel)), Or.inl rfl⟩
set_option maxRecDepth 100000 in
theorem z687 : wZ (.methodLink RX12 44 yX11_reasonOfMove) := ⟨wT6 (List.mem_of_getElem? (i := 204) (by decide +kernel)), Or.inl rfl⟩
set_option maxRecDepth 100000 in
theorem z688 : wZ (.code yX12_order cX12_order 3 (some .int)) := ⟨wT6 (List.mem_of_getElem? (i := 203) rfl), Or.inl rfl⟩
set_option maxRecDepth 100000 in
theorem z689 : wZ (.selects RX12 yX12_order yX12_order) := ⟨wT6 (List.mem_of_getElem? (i := 202) (by decide +kernel)), Or.inl rfl⟩
set_option maxRecDepth 100000 in
theorem z690 : wZ (.instanceMethod yX12_order) := ⟨wT6 (List.mem_of_getElem? (i := 201) (by decide +kernel)), Or.inl rfl⟩
set_option maxRecDepth 100000 in
theorem z691 : wZ (.methodLink RL 112 yX12_order) := ⟨wT6 (List.mem_of_getElem? (i := 200) (by decide +kernel)), Or.inl rfl⟩
set_option maxRecDepth 100000 in
theorem z692 : wZ (.selects RX10 yX10_order yX10_order) := ⟨wT4 (List.mem_of_getElem? (i := 114) (by decide +kernel)), Or.inl rfl⟩
set_option maxRecDepth 100000 in
theorem z693 : wZ (.instanceMethod yX10_order) := ⟨wT4 (List.mem_of_getElem? (i := 113) (by decide +kernel)), Or.inl rfl⟩
set_option maxRecDepth 100000 in
theorem z694 : wZ (.methodLink RL 109 yX10_order) := ⟨wT4 (List.mem_of_getElem? (i := 112) (by decide +kernel)), Or.inl rfl⟩
set_option maxRecDepth 100000 in
theorem z695 : wZ (.code yX10_why cX10_why 1 (some .int)) := ⟨wT4 (List.mem_of_getElem? (i := 120) rfl), Or.inl rfl⟩
set_option maxRecDepth 100000 in
theorem z696 : wZ (.code yX12_why cX12_why 1 (some .int)) := ⟨wT6 (List.mem_of_getElem? (i := 208) rfl), Or.inl rfl⟩
set_option maxRecDepth 100000 in
theorem z697 : wZ (.selects RX12 yX12_why yX12_why) := ⟨wT6 (List.mem_of_getElem? (i := 207) (by decide +kernel)), Or.inl rfl⟩
set_option maxRecDepth 100000 in
theorem z698 : wZ (.instanceMethod yX12_why) := ⟨wT6 (List.mem_of_getElem? (i := 206) (by decide +kernel)), Or.inl rfl⟩
set_option maxRecDepth 100000 in
theorem z699 : wZ (.methodLink RL 116 yX12_why) := ⟨wT6 (List.mem_of_getElem? (i := 205) (by decide +kernel)), Or.inl rfl⟩
set_option maxRecDepth 100000 in
theorem z700 : wZ (.selects RX10 yX10_why yX10_why) := ⟨wT4 (List.mem_of_getElem? (i := 119) (by decide +kernel)), Or.inl rfl⟩
set_option maxRecDepth 100000 in
theorem z701 : wZ (.instanceMethod yX10_why) := ⟨wT4 (List.mem_of_getElem? (i := 118) (by decide +kernel)), Or.inl rfl⟩
set_option maxRecDepth 100000 in
theorem z702 : wZ (.methodLink RL 113 yX10_why) := ⟨wT4 (List.mem_of_getElem? (i := 117) (by decide +kernel)), Or.inl rfl⟩
set_option maxRecDepth 100000 in
theorem z703 : wZ (.methodLink RX10 50 yX5_at) := ⟨wT4 (List.mem_of_getElem? (i := 125) (by decide +kernel)), Or.inl rfl⟩
set_option maxRecDepth 100000 in
theorem z704 : wZ (.fieldLink RX10 46 "MotionFloor$Assembly" "pending" "LMotionFloor$Pile;") := ⟨wT1 (List.mem_of_getElem? (i := 186) (by decide +kernel)), Or.inl rfl⟩
set_option maxRecDepth 100000 in
theorem z705 : wZ (.code yX10_pending cX10_pending 4 (some .int)) := ⟨wT4 (List.mem_of_getElem? (i := 124) rfl), Or.inl rfl⟩
set_option maxRecDepth 100000 in
theorem z706 : wZ (.fieldLink RX12 55 "MotionFloorModel$Hall" "pending" "I") := ⟨wT5 (List.mem_of_getElem? (i := 47) (by decide +kernel)), Or.inl rfl⟩
set_option maxRecDepth 100000 in
theorem z707 : wZ (.code yX12_pending cX12_pending 4 (some .int)) := ⟨wT6 (List.mem_of_getElem? (i := 212) rfl), Or.inl rfl⟩
set_option maxRecDepth 100000 in
theorem z708 : wZ (.selects RX12 yX12_pending yX12_pending) := ⟨wT6 (List.mem_of_getElem? (i := 211) (by decide +kernel)), Or.inl rfl⟩
set_option maxRecDepth 100000 in
theorem z709 : wZ (.instanceMethod yX12_pending) := ⟨wT6 (List.mem_of_getElem? (i := 210) (by decide +kernel)), Or.inl rfl⟩
set_option maxRecDepth 100000 in
theorem z710 : wZ (.methodLink RL 120 yX12_pending) := ⟨wT6 (List.mem_of_getElem? (i := 209) (by decide +kernel)), Or.inl rfl⟩
set_option maxRecDepth 100000 in
theorem z711 : wZ (.selects RX10 yX10_pending yX10_pending) := ⟨wT4 (List.mem_of_getElem? (i := 123) (by decide +kernel)), Or.inl rfl⟩
set_option maxRecDepth 100000 in
theorem z712 : wZ (.instanceMethod yX10_pending) := ⟨wT4 (List.mem_of_getElem? (i := 122) (by decide +kernel)), Or.inl rfl⟩
set_option maxRecDepth 100000 in
theorem z713 : wZ (.methodLink RL 117 yX10_pending) := ⟨wT4 (List.mem_of_getElem? (i := 121) (by decide +kernel)), Or.inl rfl⟩
set_option maxRecDepth 100000 in
theorem z714 : wZ (.fieldLink RX9 15 "MotionFloor$Text" "size" "I") := ⟨wT1 (List.mem_of_getElem? (i := 153) (by decide +kernel)), Or.inl rfl⟩
set_option maxRecDepth 100000 in
theorem z715 : wZ (.code yX9_wordAt cX9_wordAt 2 (some .int)) := ⟨wT4 (List.mem_of_getElem? (i := 141) rfl), Or.inl rfl⟩
set_option maxRecDepth 100000 in
theorem z716 : wZ (.selects RX9 yX9_wordAt yX9_wordAt) := ⟨wT4 (List.mem_of_getElem? (i := 140) (by decide +kernel)), Or.inl rfl⟩
set_option maxRecDepth 100000 in
theorem z717 : wZ (.instanceMethod yX9_wordAt) := ⟨wT4 (List.mem_of_getElem? (i := 139) (by decide +kernel)), Or.inl rfl⟩
set_option maxRecDepth 100000 in
theorem z718 : wZ (.methodLink RX0 145 yX9_wordAt) := ⟨wT4 (List.mem_of_getElem? (i := 138) (by decide +kernel)), Or.inl rfl⟩
set_option maxRecDepth 100000 in
theorem z719 : wZ (.methodLink RX0 149 yX6_motion) := ⟨wT4 (List.mem_of_getElem? (i := 142) (by decide +kernel)), Or.inl rfl⟩
set_option maxRecDepth 100000 in
theorem z720 : wZ (.methodLink RX0 97 yX5_at) := ⟨wT4 (List.mem_of_getElem? (i := 143) (by decide +kernel)), Or.inl rfl⟩
set_option maxRecDepth 100000 in
theorem z721 : wZ (.code yX0_wordOf cX0_wordOf 4 (some .int)) := ⟨wT4 (List.mem_of_getElem? (i := 137) rfl), Or.inl rfl⟩
set_option maxRecDepth 100000 in
theorem z722 : wZ (.selects RX0 yX0_wordOf yX0_wordOf) := ⟨wT4 (List.mem_of_getElem? (i := 136) (by decide +kernel)), Or.inl rfl⟩
set_option maxRecDepth 100000 in
theorem z723 : wZ (.instanceMethod yX0_wordOf) := ⟨wT4 (List.mem_of_getElem? (i := 135) (by decide +kernel)), Or.inl rfl⟩
set_option maxRecDepth 100000 in
theorem z724 : wZ (.methodLink RX10 62 yX0_wordOf) := ⟨wT4 (List.mem_of_getElem? (i := 134) (by decide +kernel)), Or.inl rfl⟩
set_option maxRecDepth 100000 in
theorem z725 : wZ (.code yX10_text cX10_text 3 (some .int)) := ⟨wT4 (List.mem_of_getElem? (i := 133) rfl), Or.inl rfl⟩
set_option maxRecDepth 100000 in
theorem z726 : wZ (.code yX11_text cX11_text 4 (some .int)) := ⟨wT6 (List.mem_of_getElem? (i := 221) rfl), Or.inl rfl⟩
set_option maxRecDepth 100000 in
theorem z727 : wZ (.selects RX11 yX11_text yX11_text) := ⟨wT6 (List.mem_of_getElem? (i := 220) (by decide +kernel)), Or.inl rfl⟩
set_option maxRecDepth 100000 in
theorem z728 : wZ (.instanceMethod yX11_text) := ⟨wT6 (List.mem_of_getElem? (i := 219) (by decide +kernel)), Or.inl rfl⟩
set_option maxRecDepth 100000 in
theorem z729 : wZ (.methodLink RX12 92 yX11_text) := ⟨wT6 (List.mem_of_getElem? (i := 218) (by decide +kernel)), Or.inl rfl⟩
set_option maxRecDepth 100000 in
theorem z730 : wZ (.code yX12_text cX12_text 3 (some .int)) := ⟨wT6 (List.mem_of_getElem? (i := 217) rfl), Or.inl rfl⟩
set_option maxRecDepth 100000 in
theorem z731 : wZ (.selects RX12 yX12_text yX12_text) := ⟨wT6 (List.mem_of_getElem? (i := 216) (by decide +kernel)), Or.inl rfl⟩
set_option maxRecDepth 100000 in
theorem z732 : wZ (.instanceMethod yX12_text) := ⟨wT6 (List.mem_of_getElem? (i := 215) (by decide +kernel)), Or.inl rfl⟩
set_option maxRecDepth 100000 in
theorem z733 : wZ (.methodLink RL 124 yX12_text) := ⟨wT6 (List.mem_of_getElem? (i := 214) (by decide +kernel)), Or.inl rfl⟩
set_option maxRecDepth 100000 in
theorem z734 : wZ (.selects RX10 yX10_text yX10_text) := ⟨wT4 (List.mem_of_getElem? (i := 132) (by decide +kernel)), Or.inl rfl⟩
set_option maxRecDepth 100000 in
theorem z735 : wZ (.instanceMethod yX10_text) := ⟨wT4 (List.mem_of_getElem? (i := 131) (by decide +kernel)), Or.inl rfl⟩
set_option maxRecDepth 100000 in
theorem z736 : wZ (.methodLink RL 121 yX10_text) := ⟨wT4 (List.mem_of_getElem? (i := 130) (by decide +kernel)), Or.inl rfl⟩
set_option maxRecDepth 100000 in
theorem z737 : wZ (.methodLink RX10 66 yX5_top) := ⟨wT4 (List.mem_of_getElem? (i := 148) (by decide +kernel)), Or.inl rfl⟩
set_option maxRecDepth 100000 in
theorem z738 : wZ (.code yX10_ballot cX10_ballot 3 (some .int)) := ⟨wT4 (List.mem_of_getElem? (i := 147) rfl), Or.inl rfl⟩
set_option maxRecDepth 100000 in
theorem z739 : wZ (.code yX12_ballot cX12_ballot 3 (some .int)) := ⟨wT6 (List.mem_of_getElem? (i := 225) rfl), Or.inl rfl⟩
set_option maxRecDepth 100000 in
theorem z740 : wZ (.selects RX12 yX12_ballot yX12_ballot) := ⟨wT6 (List.mem_of_getElem? (i := 224) (by decide +kernel)), Or.inl rfl⟩
set_option maxRecDepth 100000 in
theorem z741 : wZ (.instanceMethod yX12_ballot) := ⟨wT6 (List.mem_of_getElem? (i := 223) (by decide +kernel)), Or.inl rfl⟩
set_option maxRecDepth 100000 in
theorem z742 : wZ (.methodLink RL 128 yX12_ballot) := ⟨wT6 (List.mem_of_getElem? (i := 222) (by decide +kernel)), Or.inl rfl⟩
set_option maxRecDepth 100000 in
theorem z743 : wZ (.selects RX10 yX10_ballot yX10_ballot) := ⟨wT4 (List.mem_of_getElem? (i := 146) (by decide +kernel)), Or.inl rfl⟩
set_option maxRecDepth 100000 in
theorem z744 : wZ (.instanceMethod yX10_ballot) := ⟨wT4 (List.mem_of_getElem? (i := 145) (by decide +kernel)), Or.inl rfl⟩
set_option maxRecDepth 100000 in
theorem z745 : wZ (.methodLink RL 125 yX10_ballot) := ⟨wT4 (List.mem_of_getElem? (i := 144) (by decide +kernel)), Or.inl rfl⟩
set_option maxRecDepth 100000 in
theorem z746 : wZ (.methodLink RX6 22 yX5_at) := ⟨wT2 (List.mem_of_getElem? (i := 100) (by decide +kernel)), Or.inl rfl⟩
set_option maxRecDepth 100000 in
theorem z747 : wZ (.code yX6_kind cX6_kind 2 (some .int)) := ⟨wT3 (List.mem_of_getElem? (i := 146) rfl), Or.inl rfl⟩
set_option maxRecDepth 100000 in
theorem z748 : wZ (.selects RX6 yX6_kind yX6_kind) := ⟨wT3 (List.mem_of_getElem? (i := 145) (by decide +kernel)), Or.inl rfl⟩
set_option maxRecDepth 100000 in
theorem z749 : wZ (.instanceMethod yX6_kind) := ⟨wT3 (List.mem_of_getElem? (i := 144) (by decide +kernel)), Or.inl rfl⟩
set_option maxRecDepth 100000 in
theorem z750 : wZ (.methodLink RX6 56 yX6_kind) := ⟨wT4 (List.mem_of_getElem? (i := 160) (by decide +kernel)), Or.inl rfl⟩
set_option maxRecDepth 100000 in
theorem z751 : wZ (.methodLink RX6 49 yX6_motion) := ⟨wT4 (List.mem_of_getElem? (i := 159) (by decide +kernel)), Or.inl rfl⟩
set_option maxRecDepth 100000 in
theorem z752 : wZ (.code yX6_fact cX6_fact 4 (some .int)) := ⟨wT4 (List.mem_of_getElem? (i := 158) rfl), Or.inl rfl⟩
set_option maxRecDepth 100000 in
theorem z753 : wZ (.selects RX6 yX6_fact yX6_fact) := ⟨wT4 (List.mem_of_getElem? (i := 157) (by decide +kernel)), Or.inl rfl⟩
set_option maxRecDepth 100000 in
theorem z754 : wZ (.instanceMethod yX6_fact) := ⟨wT4 (List.mem_of_getElem? (i := 156) (by decide +kernel)), Or.inl rfl⟩
set_option maxRecDepth 100000 in
theorem z755 : wZ (.methodLink RX10 77 yX6_fact) := ⟨wT4 (List.mem_of_getElem? (i := 155) (by decide +kernel)), Or.inl rfl⟩
set_option maxRecDepth 100000 in
theorem z756 : wZ (.methodLink RX10 73 yX0_placeAt) := ⟨wT4 (List.mem_of_getElem? (i := 154) (by decide +kernel)), Or.inl rfl⟩
set_option maxRecDepth 100000 in
theorem z757 : wZ (.code yX10_desk cX10_desk 4 (some .int)) := ⟨wT4 (List.mem_of_getElem? (i := 153) rfl), Or.inl rfl⟩
set_option maxRecDepth 100000 in
theorem z758 : wZ (.fieldLink RX12 107 "MotionFloorModel$Hall" "lying" "[I") := ⟨wT5 (List.mem_of_getElem? (i := 97) (by decide +kernel)), Or.inl rfl⟩
set_option maxRecDepth 100000 in
theorem z759 : wZ (.code yX12_desk cX12_desk 6 (some .int)) := ⟨wT6 (List.mem_of_getElem? (i := 230) rfl), Or.inl rfl⟩
set_option maxRecDepth 100000 in
theorem z760 : wZ (.selects RX12 yX12_desk yX12_desk) := ⟨wT6 (List.mem_of_getElem? (i := 229) (by decide +kernel)), Or.inl rfl⟩
set_option maxRecDepth 100000 in
theorem z761 : wZ (.instanceMethod yX12_desk) := ⟨wT6 (List.mem_of_getElem? (i := 228) (by decide +kernel)), Or.inl rfl⟩
set_option maxRecDepth 100000 in
theorem z762 : wZ (.methodLink RL 132 yX12_desk) := ⟨wT6 (List.mem_of_getElem? (i := 227) (by decide +kernel)), Or.inl rfl⟩
set_option maxRecDepth 100000 in
theorem z763 : wZ (.selects RX10 yX10_desk yX10_desk) := ⟨wT4 (List.mem_of_getElem? (i := 152) (by decide +kernel)), Or.inl rfl⟩
set_option maxRecDepth 100000 in
theorem z764 : wZ (.instanceMethod yX10_desk) := ⟨wT4 (List.mem_of_getElem? (i := 151) (by decide +kernel)), Or.inl rfl⟩
set_option maxRecDepth 100000 in
theorem z765 : wZ (.methodLink RL 129 yX10_desk) := ⟨wT4 (List.mem_of_getElem? (i := 150) (by decide +kernel)), Or.inl rfl⟩
set_option maxRecDepth 100000 in
theorem z766 : wZ (.code yX6_wordAt cX6_wordAt 3 (some .int)) := ⟨wT4 (List.mem_of_getElem? (i := 168) rfl), Or.inl rfl⟩
set_option maxRecDepth 100000 in
theorem z767 : wZ (.selects RX6 yX6_wordAt yX6_wordAt) := ⟨wT4 (List.mem_of_getElem? (i := 167) (by decide +kernel)), Or.inl rfl⟩
set_option maxRecDepth 100000 in
theorem z768 : wZ (.instanceMethod yX6_wordAt) := ⟨wT4 (List.mem_of_getElem? (i := 166) (by decide +kernel)), Or.inl rfl⟩
set_option maxRecDepth 100000 in
theorem z769 : wZ (.methodLink RX10 80 yX6_wordAt) := ⟨wT4 (List.mem_of_getElem? (i := 165) (by decide +kernel)), Or.inl rfl⟩
set_option maxRecDepth 100000 in
theorem z770 : wZ (.code yX10_lying cX10_lying 4 (some .int)) := ⟨wT4 (List.mem_of_getElem? (i := 164) rfl), Or.inl rfl⟩
set_option maxRecDepth 100000 in
theorem z771 : wZ (.code yX12_lying cX12_lying 4 (some .int)) := ⟨wT6 (List.mem_of_getElem? (i := 234) rfl), Or.inl rfl⟩
set_option maxRecDepth 100000 in
theorem z772 : wZ (.selects RX12 yX12_lying yX12_lying) := ⟨wT6 (List.mem_of_getElem? (i := 233) (by decide +kernel)), Or.inl rfl⟩
set_option maxRecDepth 100000 in
theorem z773 : wZ (.instanceMethod yX12_lying) := ⟨wT6 (List.mem_of_getElem? (i := 232) (by decide +kernel)), Or.inl rfl⟩
set_option maxRecDepth 100000 in
theorem z774 : wZ (.methodLink RL 136 yX12_lying) := ⟨wT6 (List.mem_of_getElem? (i := 231) (by decide +kernel)), Or.inl rfl⟩
set_option maxRecDepth 100000 in
theorem z775 : wZ (.selects RX10 yX10_lying yX10_lying) := ⟨wT4 (List.mem_of_getElem? (i := 163) (by decide +kernel)), Or.inl rfl⟩
set_option maxRecDepth 100000 in
theorem z776 : wZ (.instanceMethod yX10_lying) := ⟨wT4 (List.mem_of_getElem? (i := 162) (by decide +kernel)), Or.inl rfl⟩
set_option maxRecDepth 100000 in
theorem z777 : wZ (.methodLink RL 133 yX10_lying) := ⟨wT4 (List.mem_of_getElem? (i := 161) (by decide +kernel)), Or.inl rfl⟩
set_option maxRecDepth 100000 in
theorem z778 : wZ (.code yX3_at cX3_at 4 (some .int)) := ⟨wT4 (List.mem_of_getElem? (i := 177) rfl), Or.inl rfl⟩
set_option maxRecDepth 100000 in
theorem z779 : wZ (.selects RX3 yX3_at yX3_at) := ⟨wT4 (List.mem_of_getElem? (i := 176) (by decide +kernel)), Or.inl rfl⟩
set_option maxRecDepth 100000 in
theorem z780 : wZ (.instanceMethod yX3_at) := ⟨wT4 (List.mem_of_getElem? (i := 175) (by decide +kernel)), Or.inl rfl⟩
set_option maxRecDepth 100000 in
theorem z781 : wZ (.methodLink RX10 86 yX3_at) := ⟨wT4 (List.mem_of_getElem? (i := 174) (by decide +kernel)), Or.inl rfl⟩
set_option maxRecDepth 100000 in
theorem z782 : wZ (.fieldLink RX10 83 "MotionFloor$Assembly" "results" "LMotionFloor$Ledger;") := ⟨wT1 (List.mem_of_getElem? (i := 200) (by decide +kernel)), Or.inl rfl⟩
set_option maxRecDepth 100000 in
theorem z783 : wZ (.code yX10_result cX10_result 3 (some .int)) := ⟨wT4 (List.mem_of_getElem? (i := 173) rfl), Or.inl rfl⟩
set_option maxRecDepth 100000 in
theorem z784 : wZ (.fieldLink RX12 124 "MotionFloorModel$Hall" "results" "I") := ⟨wT5 (List.mem_of_getElem? (i := 51) (by decide +kernel)), Or.inl rfl⟩
set_option maxRecDepth 100000 in
theorem z785 : wZ (.code yX12_result cX12_result 3 (some .int)) := ⟨wT6 (List.mem_of_getElem? (i := 238) rfl), Or.inl rfl⟩
set_option maxRecDepth 100000 in
theorem z786 : wZ (.selects RX12 yX12_result yX12_result) := ⟨wT6 (List.mem_of_getElem? (i := 237) (by decide +kernel)), Or.inl rfl⟩
set_option maxRecDepth 100000 in
theorem z787 : wZ (.instanceMethod yX12_result) := ⟨wT6 (List.mem_of_getElem? (i := 236) (by decide +kernel)), Or.inl rfl⟩
set_option maxRecDepth 100000 in
theorem z788 : wZ (.methodLink RL 140 yX12_result) := ⟨wT6 (List.mem_of_getElem? (i := 235) (by decide +kernel)), Or.inl rfl⟩
set_option maxRecDepth 100000 in
theorem z789 : wZ (.selects RX10 yX10_result yX10_result) := ⟨wT4 (List.mem_of_getElem? (i := 172) (by decide +kernel)), Or.inl rfl⟩
