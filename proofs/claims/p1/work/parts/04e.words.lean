set_option maxRecDepth 100000 in
theorem z790 : wZ (.instanceMethod yX10_result) := ⟨wT4 (List.mem_of_getElem? (i := 171) (by decide +kernel)), Or.inl rfl⟩
set_option maxRecDepth 100000 in
theorem z791 : wZ (.methodLink RL 137 yX10_result) := ⟨wT4 (List.mem_of_getElem? (i := 170) (by decide +kernel)), Or.inl rfl⟩
set_option maxRecDepth 100000 in
theorem z792 : wZ (.fieldLink RX10 127 "MotionFloor$Assembly" "adoptions" "I") := ⟨wT1 (List.mem_of_getElem? (i := 206) (by decide +kernel)), Or.inl rfl⟩
set_option maxRecDepth 100000 in
theorem z793 : wZ (.fieldLink RX10 126 "MotionFloor$Ledger" "size" "I") := ⟨wT1 (List.mem_of_getElem? (i := 136) (by decide +kernel)), Or.inl rfl⟩
set_option maxRecDepth 100000 in
theorem z794 : wZ (.fieldLink RX10 123 "MotionFloor$Assembly" "minutes" "LMotionFloor$Ledger;") := ⟨wT1 (List.mem_of_getElem? (i := 197) (by decide +kernel)), Or.inl rfl⟩
set_option maxRecDepth 100000 in
theorem z795 : wZ (.methodLink RX10 119 yX6_kind) := ⟨wT4 (List.mem_of_getElem? (i := 182) (by decide +kernel)), Or.inl rfl⟩
set_option maxRecDepth 100000 in
theorem z796 : wZ (.fieldLink RX10 115 "MotionFloor$Assembly" "draft" "LMotionFloor$Place;") := ⟨wT1 (List.mem_of_getElem? (i := 191) (by decide +kernel)), Or.inl rfl⟩
set_option maxRecDepth 100000 in
theorem z797 : wZ (.fieldLink RX10 112 "MotionFloor$Pile" "size" "I") := ⟨wT1 (List.mem_of_getElem? (i := 93) (by decide +kernel)), Or.inl rfl⟩
set_option maxRecDepth 100000 in
theorem z798 : wZ (.fieldLink RX10 109 "MotionFloor$House" "speaker" "I") := ⟨wT1 (List.mem_of_getElem? (i := 57) (by decide +kernel)), Or.inl rfl⟩
set_option maxRecDepth 100000 in
theorem z799 : wZ (.fieldLink RX10 106 "MotionFloor$House" "limit" "I") := ⟨wT1 (List.mem_of_getElem? (i := 52) (by decide +kernel)), Or.inl rfl⟩
set_option maxRecDepth 100000 in
theorem z800 : wZ (.fieldLink RX10 103 "MotionFloor$House" "quorum" "I") := ⟨wT1 (List.mem_of_getElem? (i := 48) (by decide +kernel)), Or.inl rfl⟩
set_option maxRecDepth 100000 in
theorem z801 : wZ (.fieldLink RX10 100 "MotionFloor$House" "chair" "I") := ⟨wT1 (List.mem_of_getElem? (i := 45) (by decide +kernel)), Or.inl rfl⟩
set_option maxRecDepth 100000 in
theorem z802 : wZ (.fieldLink RX10 97 "MotionFloor$House" "present" "I") := ⟨wT1 (List.mem_of_getElem? (i := 41) (by decide +kernel)), Or.inl rfl⟩
set_option maxRecDepth 100000 in
theorem z803 : wZ (.fieldLink RX10 92 "MotionFloor$House" "seats" "I") := ⟨wT1 (List.mem_of_getElem? (i := 38) (by decide +kernel)), Or.inl rfl⟩
set_option maxRecDepth 100000 in
theorem z804 : wZ (.fieldLink RX10 88 "MotionFloor$Assembly" "house" "LMotionFloor$House;") := ⟨wT1 (List.mem_of_getElem? (i := 181) (by decide +kernel)), Or.inl rfl⟩
set_option maxRecDepth 100000 in
theorem z805 : wZ (.code yX10_count cX10_count 2 (some .int)) := ⟨wT4 (List.mem_of_getElem? (i := 181) rfl), Or.inl rfl⟩
set_option maxRecDepth 100000 in
theorem z806 : wZ (.fieldLink RX12 161 "MotionFloorModel" "tolds" "I") := ⟨wT5 (List.mem_of_getElem? (i := 206) (by decide +kernel)), Or.inl rfl⟩
set_option maxRecDepth 100000 in
theorem z807 : wZ (.fieldLink RX12 158 "MotionFloorModel$Hall" "adopted" "I") := ⟨wT5 (List.mem_of_getElem? (i := 53) (by decide +kernel)), Or.inl rfl⟩
set_option maxRecDepth 100000 in
theorem z808 : wZ (.fieldLink RX12 155 "MotionFloorModel$Hall" "lastWords" "I") := ⟨wT5 (List.mem_of_getElem? (i := 106) (by decide +kernel)), Or.inl rfl⟩
set_option maxRecDepth 100000 in
theorem z809 : wZ (.fieldLink RX12 48 "MotionFloorModel$Hall" "entries" "I") := ⟨wT5 (List.mem_of_getElem? (i := 49) (by decide +kernel)), Or.inl rfl⟩
set_option maxRecDepth 100000 in
theorem z810 : wZ (.fieldLink RX12 145 "MotionFloorModel$Hall" "drafted" "I") := ⟨wT5 (List.mem_of_getElem? (i := 99) (by decide +kernel)), Or.inl rfl⟩
set_option maxRecDepth 100000 in
theorem z811 : wZ (.fieldLink RX12 142 "MotionFloorModel$Hall" "floor" "I") := ⟨wT5 (List.mem_of_getElem? (i := 45) (by decide +kernel)), Or.inl rfl⟩
set_option maxRecDepth 100000 in
theorem z812 : wZ (.fieldLink RX12 139 "MotionFloorModel$Hall" "limit" "I") := ⟨wT5 (List.mem_of_getElem? (i := 43) (by decide +kernel)), Or.inl rfl⟩
set_option maxRecDepth 100000 in
theorem z813 : wZ (.fieldLink RX12 136 "MotionFloorModel$Hall" "quorum" "I") := ⟨wT5 (List.mem_of_getElem? (i := 41) (by decide +kernel)), Or.inl rfl⟩
set_option maxRecDepth 100000 in
theorem z814 : wZ (.fieldLink RX12 133 "MotionFloorModel$Hall" "chair" "I") := ⟨wT5 (List.mem_of_getElem? (i := 39) (by decide +kernel)), Or.inl rfl⟩
set_option maxRecDepth 100000 in
theorem z815 : wZ (.fieldLink RX12 130 "MotionFloorModel$Hall" "there" "I") := ⟨wT5 (List.mem_of_getElem? (i := 37) (by decide +kernel)), Or.inl rfl⟩
set_option maxRecDepth 100000 in
theorem z816 : wZ (.fieldLink RX12 96 "MotionFloorModel$Hall" "seats" "I") := ⟨wT5 (List.mem_of_getElem? (i := 35) (by decide +kernel)), Or.inl rfl⟩
set_option maxRecDepth 100000 in
theorem z817 : wZ (.code yX12_count cX12_count 2 (some .int)) := ⟨wT7 (List.mem_of_getElem? (i := 2) rfl), Or.inl rfl⟩
set_option maxRecDepth 100000 in
theorem z818 : wZ (.selects RX12 yX12_count yX12_count) := ⟨wT7 (List.mem_of_getElem? (i := 1) (by decide +kernel)), Or.inl rfl⟩
set_option maxRecDepth 100000 in
theorem z819 : wZ (.instanceMethod yX12_count) := ⟨wT7 (List.mem_of_getElem? (i := 0) (by decide +kernel)), Or.inl rfl⟩
set_option maxRecDepth 100000 in
theorem z820 : wZ (.methodLink RL 144 yX12_count) := ⟨wT6 (List.mem_of_getElem? (i := 239) (by decide +kernel)), Or.inl rfl⟩
set_option maxRecDepth 100000 in
theorem z821 : wZ (.selects RX10 yX10_count yX10_count) := ⟨wT4 (List.mem_of_getElem? (i := 180) (by decide +kernel)), Or.inl rfl⟩
set_option maxRecDepth 100000 in
theorem z822 : wZ (.instanceMethod yX10_count) := ⟨wT4 (List.mem_of_getElem? (i := 179) (by decide +kernel)), Or.inl rfl⟩
set_option maxRecDepth 100000 in
theorem z823 : wZ (.methodLink RL 141 yX10_count) := ⟨wT4 (List.mem_of_getElem? (i := 178) (by decide +kernel)), Or.inl rfl⟩
set_option maxRecDepth 100000 in
theorem z824 : wZ (.methodLink RX10 141 yX2_isThere) := ⟨wT4 (List.mem_of_getElem? (i := 188) (by decide +kernel)), Or.inl rfl⟩
set_option maxRecDepth 100000 in
theorem z825 : wZ (.methodLink RX10 137 yX2_has) := ⟨wT4 (List.mem_of_getElem? (i := 187) (by decide +kernel)), Or.inl rfl⟩
set_option maxRecDepth 100000 in
theorem z826 : wZ (.code yX10_seat cX10_seat 2 (some .int)) := ⟨wT4 (List.mem_of_getElem? (i := 186) rfl), Or.inl rfl⟩
set_option maxRecDepth 100000 in
theorem z827 : wZ (.fieldLink RX12 164 "MotionFloorModel$Hall" "isThere" "[Z") := ⟨wT5 (List.mem_of_getElem? (i := 57) (by decide +kernel)), Or.inl rfl⟩
set_option maxRecDepth 100000 in
theorem z828 : wZ (.code yX12_seat cX12_seat 2 (some .int)) := ⟨wT7 (List.mem_of_getElem? (i := 6) rfl), Or.inl rfl⟩
set_option maxRecDepth 100000 in
theorem z829 : wZ (.selects RX12 yX12_seat yX12_seat) := ⟨wT7 (List.mem_of_getElem? (i := 5) (by decide +kernel)), Or.inl rfl⟩
set_option maxRecDepth 100000 in
theorem z830 : wZ (.instanceMethod yX12_seat) := ⟨wT7 (List.mem_of_getElem? (i := 4) (by decide +kernel)), Or.inl rfl⟩
set_option maxRecDepth 100000 in
theorem z831 : wZ (.methodLink RL 148 yX12_seat) := ⟨wT7 (List.mem_of_getElem? (i := 3) (by decide +kernel)), Or.inl rfl⟩
set_option maxRecDepth 100000 in
theorem z832 : wZ (.selects RX10 yX10_seat yX10_seat) := ⟨wT4 (List.mem_of_getElem? (i := 185) (by decide +kernel)), Or.inl rfl⟩
set_option maxRecDepth 100000 in
theorem z833 : wZ (.instanceMethod yX10_seat) := ⟨wT4 (List.mem_of_getElem? (i := 184) (by decide +kernel)), Or.inl rfl⟩
set_option maxRecDepth 100000 in
theorem z834 : wZ (.methodLink RL 145 yX10_seat) := ⟨wT4 (List.mem_of_getElem? (i := 183) (by decide +kernel)), Or.inl rfl⟩
set_option maxRecDepth 100000 in
theorem z835 : wZ (.code yX10_journal cX10_journal 3 (some .int)) := ⟨wT4 (List.mem_of_getElem? (i := 192) rfl), Or.inl rfl⟩
set_option maxRecDepth 100000 in
theorem z836 : wZ (.code yX12_journal cX12_journal 3 (some .int)) := ⟨wT7 (List.mem_of_getElem? (i := 10) rfl), Or.inl rfl⟩
set_option maxRecDepth 100000 in
theorem z837 : wZ (.selects RX12 yX12_journal yX12_journal) := ⟨wT7 (List.mem_of_getElem? (i := 9) (by decide +kernel)), Or.inl rfl⟩
set_option maxRecDepth 100000 in
theorem z838 : wZ (.instanceMethod yX12_journal) := ⟨wT7 (List.mem_of_getElem? (i := 8) (by decide +kernel)), Or.inl rfl⟩
set_option maxRecDepth 100000 in
theorem z839 : wZ (.methodLink RL 152 yX12_journal) := ⟨wT7 (List.mem_of_getElem? (i := 7) (by decide +kernel)), Or.inl rfl⟩
set_option maxRecDepth 100000 in
theorem z840 : wZ (.selects RX10 yX10_journal yX10_journal) := ⟨wT4 (List.mem_of_getElem? (i := 191) (by decide +kernel)), Or.inl rfl⟩
set_option maxRecDepth 100000 in
theorem z841 : wZ (.instanceMethod yX10_journal) := ⟨wT4 (List.mem_of_getElem? (i := 190) (by decide +kernel)), Or.inl rfl⟩
set_option maxRecDepth 100000 in
theorem z842 : wZ (.methodLink RL 149 yX10_journal) := ⟨wT4 (List.mem_of_getElem? (i := 189) (by decide +kernel)), Or.inl rfl⟩
set_option maxRecDepth 100000 in
theorem z843 : wZ (.code yX10_before cX10_before 6 (some .int)) := ⟨wT4 (List.mem_of_getElem? (i := 196) rfl), Or.inl rfl⟩
set_option maxRecDepth 100000 in
theorem z844 : wZ (.code yX11_follow cX11_follow 6 none) := ⟨wT7 (List.mem_of_getElem? (i := 18) rfl), Or.inl rfl⟩
set_option maxRecDepth 100000 in
theorem z845 : wZ (.selects RX11 yX11_follow yX11_follow) := ⟨wT7 (List.mem_of_getElem? (i := 17) (by decide +kernel)), Or.inl rfl⟩
set_option maxRecDepth 100000 in
theorem z846 : wZ (.instanceMethod yX11_follow) := ⟨wT7 (List.mem_of_getElem? (i := 16) (by decide +kernel)), Or.inl rfl⟩
set_option maxRecDepth 100000 in
theorem z847 : wZ (.methodLink RX12 170 yX11_follow) := ⟨wT7 (List.mem_of_getElem? (i := 15) (by decide +kernel)), Or.inl rfl⟩
set_option maxRecDepth 100000 in
theorem z848 : wZ (.fieldLink RX12 167 "MotionFloorModel$Hall" "minutes" "[I") := ⟨wT5 (List.mem_of_getElem? (i := 108) (by decide +kernel)), Or.inl rfl⟩
set_option maxRecDepth 100000 in
theorem z849 : wZ (.code yX12_before cX12_before 4 (some .int)) := ⟨wT7 (List.mem_of_getElem? (i := 14) rfl), Or.inl rfl⟩
set_option maxRecDepth 100000 in
theorem z850 : wZ (.selects RX12 yX12_before yX12_before) := ⟨wT7 (List.mem_of_getElem? (i := 13) (by decide +kernel)), Or.inl rfl⟩
set_option maxRecDepth 100000 in
theorem z851 : wZ (.instanceMethod yX12_before) := ⟨wT7 (List.mem_of_getElem? (i := 12) (by decide +kernel)), Or.inl rfl⟩
set_option maxRecDepth 100000 in
theorem z852 : wZ (.methodLink RL 157 yX12_before) := ⟨wT7 (List.mem_of_getElem? (i := 11) (by decide +kernel)), Or.inl rfl⟩
set_option maxRecDepth 100000 in
theorem z853 : wZ (.selects RX10 yX10_before yX10_before) := ⟨wT4 (List.mem_of_getElem? (i := 195) (by decide +kernel)), Or.inl rfl⟩
set_option maxRecDepth 100000 in
theorem z854 : wZ (.instanceMethod yX10_before) := ⟨wT4 (List.mem_of_getElem? (i := 194) (by decide +kernel)), Or.inl rfl⟩
set_option maxRecDepth 100000 in
theorem z855 : wZ (.methodLink RL 153 yX10_before) := ⟨wT4 (List.mem_of_getElem? (i := 193) (by decide +kernel)), Or.inl rfl⟩
set_option maxRecDepth 100000 in
theorem z856 : wZ (.code yX10_again cX10_again 4 (some .int)) := ⟨wT4 (List.mem_of_getElem? (i := 200) rfl), Or.inl rfl⟩
set_option maxRecDepth 100000 in
theorem z857 : wZ (.code yX12_again cX12_again 4 (some .int)) := ⟨wT7 (List.mem_of_getElem? (i := 23) rfl), Or.inl rfl⟩
set_option maxRecDepth 100000 in
theorem z858 : wZ (.selects RX12 yX12_again yX12_again) := ⟨wT7 (List.mem_of_getElem? (i := 22) (by decide +kernel)), Or.inl rfl⟩
set_option maxRecDepth 100000 in
theorem z859 : wZ (.instanceMethod yX12_again) := ⟨wT7 (List.mem_of_getElem? (i := 21) (by decide +kernel)), Or.inl rfl⟩
set_option maxRecDepth 100000 in
theorem z860 : wZ (.methodLink RL 161 yX12_again) := ⟨wT7 (List.mem_of_getElem? (i := 20) (by decide +kernel)), Or.inl rfl⟩
set_option maxRecDepth 100000 in
theorem z861 : wZ (.selects RX10 yX10_again yX10_again) := ⟨wT4 (List.mem_of_getElem? (i := 199) (by decide +kernel)), Or.inl rfl⟩
set_option maxRecDepth 100000 in
theorem z862 : wZ (.instanceMethod yX10_again) := ⟨wT4 (List.mem_of_getElem? (i := 198) (by decide +kernel)), Or.inl rfl⟩
set_option maxRecDepth 100000 in
theorem z863 : wZ (.methodLink RL 158 yX10_again) := ⟨wT4 (List.mem_of_getElem? (i := 197) (by decide +kernel)), Or.inl rfl⟩
set_option maxRecDepth 100000 in
theorem z864 : wZ (.methodLink RX10 151 yX3_write) := ⟨wT4 (List.mem_of_getElem? (i := 207) (by decide +kernel)), Or.inl rfl⟩
set_option maxRecDepth 100000 in
theorem z865 : wZ (.methodLink RX10 148 yX3_open) := ⟨wT4 (List.mem_of_getElem? (i := 206) (by decide +kernel)), Or.inl rfl⟩
set_option maxRecDepth 100000 in
theorem z866 : wZ (.methodLink RX10 144 yX3_isFull) := ⟨wT4 (List.mem_of_getElem? (i := 205) (by decide +kernel)), Or.inl rfl⟩
set_option maxRecDepth 100000 in
theorem z867 : wZ (.code yX10_tell cX10_tell 7 (some .int)) := ⟨wT4 (List.mem_of_getElem? (i := 204) rfl), Or.inl rfl⟩
set_option maxRecDepth 100000 in
theorem z868 : wZ (.code yX12_tell cX12_tell 8 (some .int)) := ⟨wT7 (List.mem_of_getElem? (i := 27) rfl), Or.inl rfl⟩
set_option maxRecDepth 100000 in
theorem z869 : wZ (.selects RX12 yX12_tell yX12_tell) := ⟨wT7 (List.mem_of_getElem? (i := 26) (by decide +kernel)), Or.inl rfl⟩
set_option maxRecDepth 100000 in
theorem z870 : wZ (.instanceMethod yX12_tell) := ⟨wT7 (List.mem_of_getElem? (i := 25) (by decide +kernel)), Or.inl rfl⟩
set_option maxRecDepth 100000 in
theorem z871 : wZ (.methodLink RL 166 yX12_tell) := ⟨wT7 (List.mem_of_getElem? (i := 24) (by decide +kernel)), Or.inl rfl⟩
set_option maxRecDepth 100000 in
theorem z872 : wZ (.selects RX10 yX10_tell yX10_tell) := ⟨wT4 (List.mem_of_getElem? (i := 203) (by decide +kernel)), Or.inl rfl⟩
set_option maxRecDepth 100000 in
theorem z873 : wZ (.instanceMethod yX10_tell) := ⟨wT4 (List.mem_of_getElem? (i := 202) (by decide +kernel)), Or.inl rfl⟩
set_option maxRecDepth 100000 in
theorem z874 : wZ (.methodLink RL 162 yX10_tell) := ⟨wT4 (List.mem_of_getElem? (i := 201) (by decide +kernel)), Or.inl rfl⟩
set_option maxRecDepth 100000 in
theorem z875 : wZ (.code yX10_check cX10_check 4 (some .int)) := ⟨wT4 (List.mem_of_getElem? (i := 211) rfl), Or.inl rfl⟩
set_option maxRecDepth 100000 in
theorem z876 : wZ (.code yX12_check cX12_check 5 (some .int)) := ⟨wT7 (List.mem_of_getElem? (i := 31) rfl), Or.inl rfl⟩
set_option maxRecDepth 100000 in
theorem z877 : wZ (.selects RX12 yX12_check yX12_check) := ⟨wT7 (List.mem_of_getElem? (i := 30) (by decide +kernel)), Or.inl rfl⟩
set_option maxRecDepth 100000 in
theorem z878 : wZ (.instanceMethod yX12_check) := ⟨wT7 (List.mem_of_getElem? (i := 29) (by decide +kernel)), Or.inl rfl⟩
set_option maxRecDepth 100000 in
theorem z879 : wZ (.methodLink RL 170 yX12_check) := ⟨wT7 (List.mem_of_getElem? (i := 28) (by decide +kernel)), Or.inl rfl⟩
set_option maxRecDepth 100000 in
theorem z880 : wZ (.selects RX10 yX10_check yX10_check) := ⟨wT4 (List.mem_of_getElem? (i := 210) (by decide +kernel)), Or.inl rfl⟩
set_option maxRecDepth 100000 in
theorem z881 : wZ (.instanceMethod yX10_check) := ⟨wT4 (List.mem_of_getElem? (i := 209) (by decide +kernel)), Or.inl rfl⟩
set_option maxRecDepth 100000 in
theorem z882 : wZ (.methodLink RL 167 yX10_check) := ⟨wT4 (List.mem_of_getElem? (i := 208) (by decide +kernel)), Or.inl rfl⟩
set_option maxRecDepth 100000 in
theorem z883 : wZ (.code yX10_strike cX10_strike 2 (some .int)) := ⟨wT4 (List.mem_of_getElem? (i := 221) rfl), Or.inl rfl⟩
set_option maxRecDepth 100000 in
theorem z884 : wZ (.code yX12_strike cX12_strike 2 (some .int)) := ⟨wT7 (List.mem_of_getElem? (i := 36) rfl), Or.inl rfl⟩
set_option maxRecDepth 100000 in
theorem z885 : wZ (.selects RX12 yX12_strike yX12_strike) := ⟨wT7 (List.mem_of_getElem? (i := 35) (by decide +kernel)), Or.inl rfl⟩
set_option maxRecDepth 100000 in
theorem z886 : wZ (.instanceMethod yX12_strike) := ⟨wT7 (List.mem_of_getElem? (i := 34) (by decide +kernel)), Or.inl rfl⟩
set_option maxRecDepth 100000 in
theorem z887 : wZ (.methodLink RL 174 yX12_strike) := ⟨wT7 (List.mem_of_getElem? (i := 33) (by decide +kernel)), Or.inl rfl⟩
set_option maxRecDepth 100000 in
theorem z888 : wZ (.selects RX10 yX10_strike yX10_strike) := ⟨wT4 (List.mem_of_getElem? (i := 220) (by decide +kernel)), Or.inl rfl⟩
set_option maxRecDepth 100000 in
theorem z889 : wZ (.instanceMethod yX10_strike) := ⟨wT4 (List.mem_of_getElem? (i := 219) (by decide +kernel)), Or.inl rfl⟩
set_option maxRecDepth 100000 in
theorem z890 : wZ (.methodLink RL 171 yX10_strike) := ⟨wT4 (List.mem_of_getElem? (i := 218) (by decide +kernel)), Or.inl rfl⟩
set_option maxRecDepth 100000 in
theorem z891 : wZ (.initialized "java/lang/System") := ⟨wT1 (List.mem_of_getElem? (i := 16) (by decide +kernel)), Or.inl rfl⟩
set_option maxRecDepth 100000 in
theorem z892 : wZ (.static arraycopyName) := ⟨wT3 (List.mem_of_getElem? (i := 209) (by decide +kernel)), Or.inl rfl⟩
set_option maxRecDepth 100000 in
theorem z893 : wZ (.native arraycopyName) := ⟨wT3 (List.mem_of_getElem? (i := 210) (by decide +kernel)), Or.inl rfl⟩
set_option maxRecDepth 100000 in
theorem z894 : wZ (.methodLink RX2 47 arraycopyName) := ⟨wT4 (List.mem_of_getElem? (i := 238) (by decide +kernel)), Or.inl rfl⟩
set_option maxRecDepth 100000 in
theorem z895 : wZ (.code yX2_become cX2_become 3 none) := ⟨wT4 (List.mem_of_getElem? (i := 237) rfl), Or.inl rfl⟩
set_option maxRecDepth 100000 in
theorem z896 : wZ (.code yX0_copy cX0_copy 6 none) := ⟨wT5 (List.mem_of_getElem? (i := 2) rfl), Or.inl rfl⟩
set_option maxRecDepth 100000 in
theorem z897 : wZ (.methodLink RX3 42 arraycopyName) := ⟨wT5 (List.mem_of_getElem? (i := 15) (by decide +kernel)), Or.inl rfl⟩
set_option maxRecDepth 100000 in
theorem z898 : wZ (.code Lib.Math.min.name Lib.Math.min.code 2 (some .int)) := ⟨wT3 (List.mem_of_getElem? (i := 196) rfl), Or.inl rfl⟩
set_option maxRecDepth 100000 in
theorem z899 : wZ (.static Lib.Math.min.name) := ⟨wT3 (List.mem_of_getElem? (i := 195) (by decide +kernel)), Or.inl rfl⟩
set_option maxRecDepth 100000 in
theorem z900 : wZ (.methodLink RX3 39 Lib.Math.min.name) := ⟨wT3 (List.mem_of_getElem? (i := 194) (by decide +kernel)), Or.inl rfl⟩
set_option maxRecDepth 100000 in
theorem z901 : wZ (.code yX3_become cX3_become 3 none) := ⟨wT5 (List.mem_of_getElem? (i := 14) rfl), Or.inl rfl⟩
set_option maxRecDepth 100000 in
theorem z902 : wZ (.methodLink RX9 28 arraycopyName) := ⟨wT4 (List.mem_of_getElem? (i := 6) (by decide +kernel)), Or.inl rfl⟩
set_option maxRecDepth 100000 in
theorem z903 : wZ (.methodLink RX9 25 Lib.Math.max.name) := ⟨wT4 (List.mem_of_getElem? (i := 5) (by decide +kernel)), Or.inl rfl⟩
set_option maxRecDepth 100000 in
theorem z904 : wZ (.methodLink RX9 19 Lib.Math.min.name) := ⟨wT4 (List.mem_of_getElem? (i := 4) (by decide +kernel)), Or.inl rfl⟩
set_option maxRecDepth 100000 in
theorem z905 : wZ (.code yX9_become cX9_become 2 none) := ⟨wT4 (List.mem_of_getElem? (i := 3) rfl), Or.inl rfl⟩
set_option maxRecDepth 100000 in
theorem z906 : wZ (.selects RX9 yX9_become yX9_become) := ⟨wT4 (List.mem_of_getElem? (i := 2) (by decide +kernel)), Or.inl rfl⟩
set_option maxRecDepth 100000 in
theorem z907 : wZ (.instanceMethod yX9_become) := ⟨wT4 (List.mem_of_getElem? (i := 1) (by decide +kernel)), Or.inl rfl⟩
set_option maxRecDepth 100000 in
theorem z908 : wZ (.methodLink RX0 93 yX9_become) := ⟨wT5 (List.mem_of_getElem? (i := 16) (by decide +kernel)), Or.inl rfl⟩
set_option maxRecDepth 100000 in
theorem z909 : wZ (.selects RX3 yX3_become yX3_become) := ⟨wT5 (List.mem_of_getElem? (i := 13) (by decide +kernel)), Or.inl rfl⟩
set_option maxRecDepth 100000 in
theorem z910 : wZ (.instanceMethod yX3_become) := ⟨wT5 (List.mem_of_getElem? (i := 12) (by decide +kernel)), Or.inl rfl⟩
set_option maxRecDepth 100000 in
theorem z911 : wZ (.methodLink RX0 90 yX3_become) := ⟨wT5 (List.mem_of_getElem? (i := 11) (by decide +kernel)), Or.inl rfl⟩
set_option maxRecDepth 100000 in
theorem z912 : wZ (.selects RX0 yX0_copy yX0_copy) := ⟨wT5 (List.mem_of_getElem? (i := 1) (by decide +kernel)), Or.inl rfl⟩
set_option maxRecDepth 100000 in
theorem z913 : wZ (.instanceMethod yX0_copy) := ⟨wT5 (List.mem_of_getElem? (i := 0) (by decide +kernel)), Or.inl rfl⟩
set_option maxRecDepth 100000 in
theorem z914 : wZ (.methodLink RX0 80 yX0_copy) := ⟨wT4 (List.mem_of_getElem? (i := 239) (by decide +kernel)), Or.inl rfl⟩
set_option maxRecDepth 100000 in
theorem z915 : wZ (.selects RX2 yX2_become yX2_become) := ⟨wT4 (List.mem_of_getElem? (i := 236) (by decide +kernel)), Or.inl rfl⟩
set_option maxRecDepth 100000 in
theorem z916 : wZ (.instanceMethod yX2_become) := ⟨wT4 (List.mem_of_getElem? (i := 235) (by decide +kernel)), Or.inl rfl⟩
set_option maxRecDepth 100000 in
theorem z917 : wZ (.methodLink RX0 76 yX2_become) := ⟨wT4 (List.mem_of_getElem? (i := 234) (by decide +kernel)), Or.inl rfl⟩
set_option maxRecDepth 100000 in
theorem z918 : wZ (.code yX0_become cX0_become 3 none) := ⟨wT4 (List.mem_of_getElem? (i := 233) rfl), Or.inl rfl⟩
set_option maxRecDepth 100000 in
theorem z919 : wZ (.selects RX0 yX0_become yX0_become) := ⟨wT4 (List.mem_of_getElem? (i := 232) (by decide +kernel)), Or.inl rfl⟩
set_option maxRecDepth 100000 in
theorem z920 : wZ (.instanceMethod yX0_become) := ⟨wT4 (List.mem_of_getElem? (i := 231) (by decide +kernel)), Or.inl rfl⟩
set_option maxRecDepth 100000 in
theorem z921 : wZ (.methodLink RX10 167 yX0_become) := ⟨wT4 (List.mem_of_getElem? (i := 230) (by decide +kernel)), Or.inl rfl⟩
set_option maxRecDepth 100000 in
theorem z922 : wZ (.code yX10_imageOfNow cX10_imageOfNow 3 (some (.object "MotionFloor$Assembly"))) := ⟨wT4 (List.mem_of_getElem? (i := 229) rfl), Or.inl rfl⟩
set_option maxRecDepth 100000 in
theorem z923 : wZ (.fieldLink RX10 157 "MotionFloor" "firstImage" "LMotionFloor$Assembly;") := ⟨wT1 (List.mem_of_getElem? (i := 239) (by decide +kernel)), Or.inl rfl⟩
set_option maxRecDepth 100000 in
theorem z924 : wZ (.selects RX10 yX10_imageOfNow yX10_imageOfNow) := ⟨List.mem_append_left _ (List.mem_of_getElem? (i := 1) (by decide +kernel)), Or.inl rfl⟩
set_option maxRecDepth 100000 in
theorem z925 : wZ (.instanceMethod yX10_imageOfNow) := ⟨wT4 (List.mem_of_getElem? (i := 228) (by decide +kernel)), Or.inl rfl⟩
set_option maxRecDepth 100000 in
theorem z926 : wZ (.methodLink RX10 160 yX10_imageOfNow) := ⟨wT4 (List.mem_of_getElem? (i := 226) (by decide +kernel)), Or.inl rfl⟩
set_option maxRecDepth 100000 in
theorem z927 : wZ (.fieldLink RX10 164 "MotionFloor" "secondImage" "LMotionFloor$Assembly;") := ⟨wT2 (List.mem_of_getElem? (i := 0) (by decide +kernel)), Or.inl rfl⟩
set_option maxRecDepth 100000 in
theorem z928 : wZ (.code yX10_image cX10_image 2 (some .int)) := ⟨wT4 (List.mem_of_getElem? (i := 225) rfl), Or.inl rfl⟩
set_option maxRecDepth 100000 in
theorem z929 : wZ (.code yX12_image cX12_image 3 (some .int)) := ⟨wT7 (List.mem_of_getElem? (i := 40) rfl), Or.inl rfl⟩
set_option maxRecDepth 100000 in
theorem z930 : wZ (.selects RX12 yX12_image yX12_image) := ⟨wT7 (List.mem_of_getElem? (i := 39) (by decide +kernel)), Or.inl rfl⟩
set_option maxRecDepth 100000 in
theorem z931 : wZ (.instanceMethod yX12_image) := ⟨wT7 (List.mem_of_getElem? (i := 38) (by decide +kernel)), Or.inl rfl⟩
set_option maxRecDepth 100000 in
theorem z932 : wZ (.methodLink RL 178 yX12_image) := ⟨wT7 (List.mem_of_getElem? (i := 37) (by decide +kernel)), Or.inl rfl⟩
set_option maxRecDepth 100000 in
theorem z933 : wZ (.selects RX10 yX10_image yX10_image) := ⟨wT4 (List.mem_of_getElem? (i := 224) (by decide +kernel)), Or.inl rfl⟩
set_option maxRecDepth 100000 in
theorem z934 : wZ (.instanceMethod yX10_image) := ⟨wT4 (List.mem_of_getElem? (i := 223) (by decide +kernel)), Or.inl rfl⟩
set_option maxRecDepth 100000 in
theorem z935 : wZ (.methodLink RL 175 yX10_image) := ⟨wT4 (List.mem_of_getElem? (i := 222) (by decide +kernel)), Or.inl rfl⟩
set_option maxRecDepth 100000 in
theorem z936 : wZ (.code yX10_back cX10_back 3 (some .int)) := ⟨wT5 (List.mem_of_getElem? (i := 20) rfl), Or.inl rfl⟩
set_option maxRecDepth 100000 in
theorem z937 : wZ (.code yX12_back cX12_back 5 (some .int)) := ⟨wT7 (List.mem_of_getElem? (i := 44) rfl), Or.inl rfl⟩
set_option maxRecDepth 100000 in
theorem z938 : wZ (.selects RX12 yX12_back yX12_back) := ⟨wT7 (List.mem_of_getElem? (i := 43) (by decide +kernel)), Or.inl rfl⟩
set_option maxRecDepth 100000 in
theorem z939 : wZ (.instanceMethod yX12_back) := ⟨wT7 (List.mem_of_getElem? (i := 42) (by decide +kernel)), Or.inl rfl⟩
set_option maxRecDepth 100000 in
theorem z940 : wZ (.methodLink RL 182 yX12_back) := ⟨wT7 (List.mem_of_getElem? (i := 41) (by decide +kernel)), Or.inl rfl⟩
set_option maxRecDepth 100000 in
theorem z941 : wZ (.selects RX10 yX10_back yX10_back) := ⟨wT5 (List.mem_of_getElem? (i := 19) (by decide +kernel)), Or.inl rfl⟩
set_option maxRecDepth 100000 in
theorem z942 : wZ (.instanceMethod yX10_back) := ⟨wT5 (List.mem_of_getElem? (i := 18) (by decide +kernel)), Or.inl rfl⟩
set_option maxRecDepth 100000 in
theorem z943 : wZ (.methodLink RL 179 yX10_back) := ⟨wT5 (List.mem_of_getElem? (i := 17) (by decide +kernel)), Or.inl rfl⟩
set_option maxRecDepth 100000 in
theorem z944 : wZ (.instanceMethod yX12_init) := ⟨wT5 (List.mem_of_getElem? (i := 24) (by decide +kernel)), Or.inl rfl⟩
set_option maxRecDepth 100000 in
theorem z945 : wZ (.methodLink RL 12 yX12_init) := ⟨wT5 (List.mem_of_getElem? (i := 23) (by decide +kernel)), Or.inl rfl⟩
set_option maxRecDepth 100000 in
theorem z946 : wZ (.classLink RL 10 RX12) := ⟨wT5 (List.mem_of_getElem? (i := 21) (by decide +kernel)), Or.inl rfl⟩
set_option maxRecDepth 100000 in
theorem z947 : wZ (.instanceMethod yX10_init) := ⟨wT1 (List.mem_of_getElem? (i := 20) (by decide +kernel)), Or.inl rfl⟩
set_option maxRecDepth 100000 in
theorem z948 : wZ (.methodLink RL 9 yX10_init) := ⟨wT1 (List.mem_of_getElem? (i := 19) (by decide +kernel)), Or.inl rfl⟩
set_option maxRecDepth 100000 in
theorem z949 : wZ (.classLink RL 7 RX10) := ⟨wT1 (List.mem_of_getElem? (i := 17) (by decide +kernel)), Or.inl rfl⟩
