set_option maxRecDepth 100000 in
theorem z0 : wZ (.code yX12_in cX12_in 3 (some .boolean)) := ⟨wT5 (List.mem_of_getElem? (i := 228) rfl), Or.inl rfl⟩
set_option maxRecDepth 100000 in
theorem z1 : wZ (.initialized RX12) := ⟨wT1 (List.mem_of_getElem? (i := 10) (by decide +kernel)), Or.inl rfl⟩
set_option maxRecDepth 100000 in
theorem z2 : wZ (.static yX12_in) := ⟨wT5 (List.mem_of_getElem? (i := 227) (by decide +kernel)), Or.inl rfl⟩
set_option maxRecDepth 100000 in
theorem z3 : wZ (.methodLink RX12 1 yX12_in) := ⟨wT5 (List.mem_of_getElem? (i := 226) (by decide +kernel)), Or.inl rfl⟩
set_option maxRecDepth 100000 in
theorem z4 : wZ (.code yX12_numbers cX12_numbers 1 (some .int)) := ⟨wT6 (List.mem_of_getElem? (i := 115) rfl), Or.inl rfl⟩
set_option maxRecDepth 100000 in
theorem z5 : wZ (.code yX11_isWord cX11_isWord 1 (some .boolean)) := ⟨wT6 (List.mem_of_getElem? (i := 24) rfl), Or.inl rfl⟩
set_option maxRecDepth 100000 in
theorem z6 : wZ (.lays "MotionFloorModel$Hall" "MotionFloorModel$Hall" "seats" "I") := ⟨wT5 (List.mem_of_getElem? (i := 111) (by decide +kernel)), Or.inl rfl⟩
set_option maxRecDepth 100000 in
theorem z7 : wZ (.lays "MotionFloorModel$Hall" "MotionFloorModel$Hall" "there" "I") := ⟨wT5 (List.mem_of_getElem? (i := 113) (by decide +kernel)), Or.inl rfl⟩
set_option maxRecDepth 100000 in
theorem z8 : wZ (.lays "MotionFloorModel$Hall" "MotionFloorModel$Hall" "chair" "I") := ⟨wT5 (List.mem_of_getElem? (i := 115) (by decide +kernel)), Or.inl rfl⟩
set_option maxRecDepth 100000 in
theorem z9 : wZ (.lays "MotionFloorModel$Hall" "MotionFloorModel$Hall" "quorum" "I") := ⟨wT5 (List.mem_of_getElem? (i := 117) (by decide +kernel)), Or.inl rfl⟩
set_option maxRecDepth 100000 in
theorem z10 : wZ (.lays "MotionFloorModel$Hall" "MotionFloorModel$Hall" "limit" "I") := ⟨wT5 (List.mem_of_getElem? (i := 119) (by decide +kernel)), Or.inl rfl⟩
set_option maxRecDepth 100000 in
theorem z11 : wZ (.lays "MotionFloorModel$Hall" "MotionFloorModel$Hall" "floor" "I") := ⟨wT5 (List.mem_of_getElem? (i := 121) (by decide +kernel)), Or.inl rfl⟩
set_option maxRecDepth 100000 in
theorem z12 : wZ (.lays "MotionFloorModel$Hall" "MotionFloorModel$Hall" "pending" "I") := ⟨wT5 (List.mem_of_getElem? (i := 123) (by decide +kernel)), Or.inl rfl⟩
set_option maxRecDepth 100000 in
theorem z13 : wZ (.lays "MotionFloorModel$Hall" "MotionFloorModel$Hall" "entries" "I") := ⟨wT5 (List.mem_of_getElem? (i := 125) (by decide +kernel)), Or.inl rfl⟩
set_option maxRecDepth 100000 in
theorem z14 : wZ (.lays "MotionFloorModel$Hall" "MotionFloorModel$Hall" "results" "I") := ⟨wT5 (List.mem_of_getElem? (i := 127) (by decide +kernel)), Or.inl rfl⟩
set_option maxRecDepth 100000 in
theorem z15 : wZ (.lays "MotionFloorModel$Hall" "MotionFloorModel$Hall" "adopted" "I") := ⟨wT5 (List.mem_of_getElem? (i := 129) (by decide +kernel)), Or.inl rfl⟩
set_option maxRecDepth 100000 in
theorem z16 : wZ (.lays "MotionFloorModel$Hall" "MotionFloorModel$Hall" "why" "I") := ⟨wT5 (List.mem_of_getElem? (i := 131) (by decide +kernel)), Or.inl rfl⟩
set_option maxRecDepth 100000 in
theorem z17 : wZ (.laysFinal "MotionFloorModel$Hall" "MotionFloorModel$Hall" "isThere" "[Z") := ⟨wT5 (List.mem_of_getElem? (i := 133) (by decide +kernel)), Or.inl rfl⟩
set_option maxRecDepth 100000 in
theorem z18 : wZ (.laysFinal "MotionFloorModel$Hall" "MotionFloorModel$Hall" "majority" "[I") := ⟨wT5 (List.mem_of_getElem? (i := 135) (by decide +kernel)), Or.inl rfl⟩
set_option maxRecDepth 100000 in
theorem z19 : wZ (.laysFinal "MotionFloorModel$Hall" "MotionFloorModel$Hall" "used" "[Z") := ⟨wT5 (List.mem_of_getElem? (i := 137) (by decide +kernel)), Or.inl rfl⟩
set_option maxRecDepth 100000 in
theorem z20 : wZ (.laysFinal "MotionFloorModel$Hall" "MotionFloorModel$Hall" "kind" "[I") := ⟨wT5 (List.mem_of_getElem? (i := 139) (by decide +kernel)), Or.inl rfl⟩
set_option maxRecDepth 100000 in
theorem z21 : wZ (.laysFinal "MotionFloorModel$Hall" "MotionFloorModel$Hall" "mover" "[I") := ⟨wT5 (List.mem_of_getElem? (i := 141) (by decide +kernel)), Or.inl rfl⟩
set_option maxRecDepth 100000 in
theorem z22 : wZ (.laysFinal "MotionFloorModel$Hall" "MotionFloorModel$Hall" "seconder" "[I") := ⟨wT5 (List.mem_of_getElem? (i := 143) (by decide +kernel)), Or.inl rfl⟩
set_option maxRecDepth 100000 in
theorem z23 : wZ (.laysFinal "MotionFloorModel$Hall" "MotionFloorModel$Hall" "floors" "[I") := ⟨wT5 (List.mem_of_getElem? (i := 145) (by decide +kernel)), Or.inl rfl⟩
set_option maxRecDepth 100000 in
theorem z24 : wZ (.laysFinal "MotionFloorModel$Hall" "MotionFloorModel$Hall" "speeches" "[I") := ⟨wT5 (List.mem_of_getElem? (i := 147) (by decide +kernel)), Or.inl rfl⟩
set_option maxRecDepth 100000 in
theorem z25 : wZ (.laysFinal "MotionFloorModel$Hall" "MotionFloorModel$Hall" "words" "[I") := ⟨wT5 (List.mem_of_getElem? (i := 149) (by decide +kernel)), Or.inl rfl⟩
set_option maxRecDepth 100000 in
theorem z26 : wZ (.laysFinal "MotionFloorModel$Hall" "MotionFloorModel$Hall" "from" "[I") := ⟨wT5 (List.mem_of_getElem? (i := 151) (by decide +kernel)), Or.inl rfl⟩
set_option maxRecDepth 100000 in
theorem z27 : wZ (.laysFinal "MotionFloorModel$Hall" "MotionFloorModel$Hall" "to" "[I") := ⟨wT5 (List.mem_of_getElem? (i := 153) (by decide +kernel)), Or.inl rfl⟩
set_option maxRecDepth 100000 in
theorem z28 : wZ (.laysFinal "MotionFloorModel$Hall" "MotionFloorModel$Hall" "self" "[I") := ⟨wT5 (List.mem_of_getElem? (i := 155) (by decide +kernel)), Or.inl rfl⟩
set_option maxRecDepth 100000 in
theorem z29 : wZ (.laysFinal "MotionFloorModel$Hall" "MotionFloorModel$Hall" "subject" "[I") := ⟨wT5 (List.mem_of_getElem? (i := 157) (by decide +kernel)), Or.inl rfl⟩
set_option maxRecDepth 100000 in
theorem z30 : wZ (.laysFinal "MotionFloorModel$Hall" "MotionFloorModel$Hall" "closed" "[Z") := ⟨wT5 (List.mem_of_getElem? (i := 159) (by decide +kernel)), Or.inl rfl⟩
set_option maxRecDepth 100000 in
theorem z31 : wZ (.laysFinal "MotionFloorModel$Hall" "MotionFloorModel$Hall" "laid" "[Z") := ⟨wT5 (List.mem_of_getElem? (i := 161) (by decide +kernel)), Or.inl rfl⟩
set_option maxRecDepth 100000 in
theorem z32 : wZ (.laysFinal "MotionFloorModel$Hall" "MotionFloorModel$Hall" "outside" "[Z") := ⟨wT5 (List.mem_of_getElem? (i := 163) (by decide +kernel)), Or.inl rfl⟩
set_option maxRecDepth 100000 in
theorem z33 : wZ (.laysFinal "MotionFloorModel$Hall" "MotionFloorModel$Hall" "letter" "[Z") := ⟨wT5 (List.mem_of_getElem? (i := 165) (by decide +kernel)), Or.inl rfl⟩
set_option maxRecDepth 100000 in
theorem z34 : wZ (.laysFinal "MotionFloorModel$Hall" "MotionFloorModel$Hall" "text" "[I") := ⟨wT5 (List.mem_of_getElem? (i := 167) (by decide +kernel)), Or.inl rfl⟩
set_option maxRecDepth 100000 in
theorem z35 : wZ (.laysFinal "MotionFloorModel$Hall" "MotionFloorModel$Hall" "ballot" "[B") := ⟨wT5 (List.mem_of_getElem? (i := 169) (by decide +kernel)), Or.inl rfl⟩
set_option maxRecDepth 100000 in
theorem z36 : wZ (.lays "MotionFloorModel$Hall" "MotionFloorModel$Hall" "born" "I") := ⟨wT5 (List.mem_of_getElem? (i := 171) (by decide +kernel)), Or.inl rfl⟩
set_option maxRecDepth 100000 in
theorem z37 : wZ (.laysFinal "MotionFloorModel$Hall" "MotionFloorModel$Hall" "row" "[I") := ⟨wT5 (List.mem_of_getElem? (i := 173) (by decide +kernel)), Or.inl rfl⟩
set_option maxRecDepth 100000 in
theorem z38 : wZ (.laysFinal "MotionFloorModel$Hall" "MotionFloorModel$Hall" "draft" "[I") := ⟨wT5 (List.mem_of_getElem? (i := 175) (by decide +kernel)), Or.inl rfl⟩
set_option maxRecDepth 100000 in
theorem z39 : wZ (.laysFinal "MotionFloorModel$Hall" "MotionFloorModel$Hall" "desk" "[I") := ⟨wT5 (List.mem_of_getElem? (i := 177) (by decide +kernel)), Or.inl rfl⟩
set_option maxRecDepth 100000 in
theorem z40 : wZ (.laysFinal "MotionFloorModel$Hall" "MotionFloorModel$Hall" "lying" "[I") := ⟨wT5 (List.mem_of_getElem? (i := 179) (by decide +kernel)), Or.inl rfl⟩
set_option maxRecDepth 100000 in
theorem z41 : wZ (.lays "MotionFloorModel$Hall" "MotionFloorModel$Hall" "drafted" "I") := ⟨wT5 (List.mem_of_getElem? (i := 181) (by decide +kernel)), Or.inl rfl⟩
set_option maxRecDepth 100000 in
theorem z42 : wZ (.lays "MotionFloorModel$Hall" "MotionFloorModel$Hall" "draftTabled" "Z") := ⟨wT5 (List.mem_of_getElem? (i := 183) (by decide +kernel)), Or.inl rfl⟩
set_option maxRecDepth 100000 in
theorem z43 : wZ (.laysFinal "MotionFloorModel$Hall" "MotionFloorModel$Hall" "tabled" "[Z") := ⟨wT5 (List.mem_of_getElem? (i := 185) (by decide +kernel)), Or.inl rfl⟩
set_option maxRecDepth 100000 in
theorem z44 : wZ (.laysFinal "MotionFloorModel$Hall" "MotionFloorModel$Hall" "last" "[I") := ⟨wT5 (List.mem_of_getElem? (i := 187) (by decide +kernel)), Or.inl rfl⟩
set_option maxRecDepth 100000 in
theorem z45 : wZ (.lays "MotionFloorModel$Hall" "MotionFloorModel$Hall" "lastWords" "I") := ⟨wT5 (List.mem_of_getElem? (i := 189) (by decide +kernel)), Or.inl rfl⟩
set_option maxRecDepth 100000 in
theorem z46 : wZ (.laysFinal "MotionFloorModel$Hall" "MotionFloorModel$Hall" "minutes" "[I") := ⟨wT5 (List.mem_of_getElem? (i := 191) (by decide +kernel)), Or.inl rfl⟩
set_option maxRecDepth 100000 in
theorem z47 : wZ (.laysFinal "MotionFloorModel$Hall" "MotionFloorModel$Hall" "result" "[I") := ⟨wT5 (List.mem_of_getElem? (i := 193) (by decide +kernel)), Or.inl rfl⟩
theorem zcX11 : GoodIn lw_tbl wsX110 := by
  show GoodIn lw_tbl [.lays "MotionFloorModel$Hall" "MotionFloorModel$Hall" "seats" "I", .lays "MotionFloorModel$Hall" "MotionFloorModel$Hall" "there" "I", .lays "MotionFloorModel$Hall" "MotionFloorModel$Hall" "chair" "I", .lays "MotionFloorModel$Hall" "MotionFloorModel$Hall" "quorum" "I", .lays "MotionFloorModel$Hall" "MotionFloorModel$Hall" "limit" "I", .lays "MotionFloorModel$Hall" "MotionFloorModel$Hall" "floor" "I", .lays "MotionFloorModel$Hall" "MotionFloorModel$Hall" "pending" "I", .lays "MotionFloorModel$Hall" "MotionFloorModel$Hall" "entries" "I", .lays "MotionFloorModel$Hall" "MotionFloorModel$Hall" "results" "I", .lays "MotionFloorModel$Hall" "MotionFloorModel$Hall" "adopted" "I", .lays "MotionFloorModel$Hall" "MotionFloorModel$Hall" "why" "I", .laysFinal "MotionFloorModel$Hall" "MotionFloorModel$Hall" "isThere" "[Z", .laysFinal "MotionFloorModel$Hall" "MotionFloorModel$Hall" "majority" "[I", .laysFinal "MotionFloorModel$Hall" "MotionFloorModel$Hall" "used" "[Z", .laysFinal "MotionFloorModel$Hall" "MotionFloorModel$Hall" "kind" "[I", .laysFinal "MotionFloorModel$Hall" "MotionFloorModel$Hall" "mover" "[I", .laysFinal "MotionFloorModel$Hall" "MotionFloorModel$Hall" "seconder" "[I", .laysFinal "MotionFloorModel$Hall" "MotionFloorModel$Hall" "floors" "[I", .laysFinal "MotionFloorModel$Hall" "MotionFloorModel$Hall" "speeches" "[I", .laysFinal "MotionFloorModel$Hall" "MotionFloorModel$Hall" "words" "[I", .laysFinal "MotionFloorModel$Hall" "MotionFloorModel$Hall" "from" "[I", .laysFinal "MotionFloorModel$Hall" "MotionFloorModel$Hall" "to" "[I", .laysFinal "MotionFloorModel$Hall" "MotionFloorModel$Hall" "self" "[I", .laysFinal "MotionFloorModel$Hall" "MotionFloorModel$Hall" "subject" "[I", .laysFinal "MotionFloorModel$Hall" "MotionFloorModel$Hall" "closed" "[Z", .laysFinal "MotionFloorModel$Hall" "MotionFloorModel$Hall" "laid" "[Z", .laysFinal "MotionFloorModel$Hall" "MotionFloorModel$Hall" "outside" "[Z", .laysFinal "MotionFloorModel$Hall" "MotionFloorModel$Hall" "letter" "[Z", .laysFinal "MotionFloorModel$Hall" "MotionFloorModel$Hall" "text" "[I", .laysFinal "MotionFloorModel$Hall" "MotionFloorModel$Hall" "ballot" "[B", .lays "MotionFloorModel$Hall" "MotionFloorModel$Hall" "born" "I", .laysFinal "MotionFloorModel$Hall" "MotionFloorModel$Hall" "row" "[I", .laysFinal "MotionFloorModel$Hall" "MotionFloorModel$Hall" "draft" "[I", .laysFinal "MotionFloorModel$Hall" "MotionFloorModel$Hall" "desk" "[I", .laysFinal "MotionFloorModel$Hall" "MotionFloorModel$Hall" "lying" "[I", .lays "MotionFloorModel$Hall" "MotionFloorModel$Hall" "drafted" "I", .lays "MotionFloorModel$Hall" "MotionFloorModel$Hall" "draftTabled" "Z", .laysFinal "MotionFloorModel$Hall" "MotionFloorModel$Hall" "tabled" "[Z", .laysFinal "MotionFloorModel$Hall" "MotionFloorModel$Hall" "last" "[I", .lays "MotionFloorModel$Hall" "MotionFloorModel$Hall" "lastWords" "I", .laysFinal "MotionFloorModel$Hall" "MotionFloorModel$Hall" "minutes" "[I", .laysFinal "MotionFloorModel$Hall" "MotionFloorModel$Hall" "result" "[I"]
  exact wGc z6 (wGc z7 (wGc z8 (wGc z9 (wGc z10 (wGc z11 (wGc z12 (wGc z13 (wGc z14 (wGc z15 (wGc z16 (wGc z17 (wGc z18 (wGc z19 (wGc z20 (wGc z21 (wGc z22 (wGc z23 (wGc z24 (wGc z25 (wGc z26 (wGc z27 (wGc z28 (wGc z29 (wGc z30 (wGc z31 (wGc z32 (wGc z33 (wGc z34 (wGc z35 (wGc z36 (wGc z37 (wGc z38 (wGc z39 (wGc z40 (wGc z41 (wGc z42 (wGc z43 (wGc z44 (wGc z45 (wGc z46 (wGc z47 (wG0))))))))))))))))))))))))))))))))))))))))))
set_option maxRecDepth 100000 in
theorem z48 : wZ (.fieldLink RX11 96 "MotionFloorModel$Hall" "seats" "I") := ⟨wT5 (List.mem_of_getElem? (i := 34) (by decide +kernel)), Or.inl rfl⟩
set_option maxRecDepth 100000 in
theorem z49 : wZ (.code yX11_isSeat cX11_isSeat 2 (some .boolean)) := ⟨wT6 (List.mem_of_getElem? (i := 4) rfl), Or.inl rfl⟩
set_option maxRecDepth 100000 in
theorem z50 : wZ (.fieldLink RX11 9 "MotionFloorModel$Hall" "isThere" "[Z") := ⟨wT5 (List.mem_of_getElem? (i := 56) (by decide +kernel)), Or.inl rfl⟩
set_option maxRecDepth 100000 in
theorem z51 : wZ (.initialized RX11) := ⟨wT1 (List.mem_of_getElem? (i := 11) (by decide +kernel)), Or.inl rfl⟩
set_option maxRecDepth 100000 in
theorem z52 : wZ (.selects RX11 yX11_isSeat yX11_isSeat) := ⟨List.mem_append_left _ (List.mem_of_getElem? (i := 3) (by decide +kernel)), Or.inl rfl⟩
set_option maxRecDepth 100000 in
theorem z53 : wZ (.instanceMethod yX11_isSeat) := ⟨wT6 (List.mem_of_getElem? (i := 3) (by decide +kernel)), Or.inl rfl⟩
set_option maxRecDepth 100000 in
theorem z54 : wZ (.methodLink RX11 140 yX11_isSeat) := ⟨wT6 (List.mem_of_getElem? (i := 1) (by decide +kernel)), Or.inl rfl⟩
set_option maxRecDepth 100000 in
theorem z55 : wZ (.code yX11_isHere cX11_isHere 2 (some .boolean)) := ⟨wT6 (List.mem_of_getElem? (i := 52) rfl), Or.inl rfl⟩
set_option maxRecDepth 100000 in
theorem z56 : wZ (.fieldLink RX11 115 "MotionFloorModel$Hall" "pending" "I") := ⟨wT5 (List.mem_of_getElem? (i := 46) (by decide +kernel)), Or.inl rfl⟩
set_option maxRecDepth 100000 in
theorem z57 : wZ (.fieldLink RX11 72 "MotionFloorModel$Hall" "row" "[I") := ⟨wT5 (List.mem_of_getElem? (i := 90) (by decide +kernel)), Or.inl rfl⟩
set_option maxRecDepth 100000 in
theorem z58 : wZ (.code yX11_top cX11_top 1 (some .int)) := ⟨wT6 (List.mem_of_getElem? (i := 9) rfl), Or.inl rfl⟩
set_option maxRecDepth 100000 in
theorem z59 : wZ (.fieldLink RX11 68 "MotionFloorModel$Hall" "ballot" "[B") := ⟨wT5 (List.mem_of_getElem? (i := 87) (by decide +kernel)), Or.inl rfl⟩
set_option maxRecDepth 100000 in
theorem z60 : wZ (.fieldLink RX11 52 "MotionFloorModel$Hall" "closed" "[Z") := ⟨wT5 (List.mem_of_getElem? (i := 78) (by decide +kernel)), Or.inl rfl⟩
set_option maxRecDepth 100000 in
theorem z61 : wZ (.fieldLink RX11 34 "MotionFloorModel$Hall" "speeches" "[I") := ⟨wT5 (List.mem_of_getElem? (i := 68) (by decide +kernel)), Or.inl rfl⟩
set_option maxRecDepth 100000 in
theorem z62 : wZ (.fieldLink RX11 31 "MotionFloorModel$Hall" "floors" "[I") := ⟨wT5 (List.mem_of_getElem? (i := 66) (by decide +kernel)), Or.inl rfl⟩
set_option maxRecDepth 100000 in
theorem z63 : wZ (.fieldLink RX11 46 "MotionFloorModel$Hall" "self" "[I") := ⟨wT5 (List.mem_of_getElem? (i := 76) (by decide +kernel)), Or.inl rfl⟩
set_option maxRecDepth 100000 in
theorem z64 : wZ (.fieldLink RX11 148 "MotionFloorModel$Hall" "born" "I") := ⟨wT5 (List.mem_of_getElem? (i := 89) (by decide +kernel)), Or.inl rfl⟩
set_option maxRecDepth 100000 in
theorem z65 : wZ (.code yX11_anew cX11_anew 3 none) := ⟨wT6 (List.mem_of_getElem? (i := 68) rfl), Or.inl rfl⟩
set_option maxRecDepth 100000 in
theorem z66 : wZ (.fieldLink RX11 28 "MotionFloorModel$Hall" "seconder" "[I") := ⟨wT5 (List.mem_of_getElem? (i := 64) (by decide +kernel)), Or.inl rfl⟩
set_option maxRecDepth 100000 in
theorem z67 : wZ (.selects RX11 yX11_anew yX11_anew) := ⟨List.mem_append_left _ (List.mem_of_getElem? (i := 16) (by decide +kernel)), Or.inl rfl⟩
set_option maxRecDepth 100000 in
theorem z68 : wZ (.instanceMethod yX11_anew) := ⟨wT6 (List.mem_of_getElem? (i := 67) (by decide +kernel)), Or.inl rfl⟩
set_option maxRecDepth 100000 in
theorem z69 : wZ (.methodLink RX11 144 yX11_anew) := ⟨wT6 (List.mem_of_getElem? (i := 65) (by decide +kernel)), Or.inl rfl⟩
set_option maxRecDepth 100000 in
theorem z70 : wZ (.fieldLink RX11 61 "MotionFloorModel$Hall" "letter" "[Z") := ⟨wT5 (List.mem_of_getElem? (i := 83) (by decide +kernel)), Or.inl rfl⟩
set_option maxRecDepth 100000 in
theorem z71 : wZ (.fieldLink RX11 58 "MotionFloorModel$Hall" "outside" "[Z") := ⟨wT5 (List.mem_of_getElem? (i := 81) (by decide +kernel)), Or.inl rfl⟩
set_option maxRecDepth 100000 in
theorem z72 : wZ (.fieldLink RX11 55 "MotionFloorModel$Hall" "laid" "[Z") := ⟨wT5 (List.mem_of_getElem? (i := 80) (by decide +kernel)), Or.inl rfl⟩
set_option maxRecDepth 100000 in
theorem z73 : wZ (.fieldLink RX11 49 "MotionFloorModel$Hall" "subject" "[I") := ⟨wT5 (List.mem_of_getElem? (i := 77) (by decide +kernel)), Or.inl rfl⟩
set_option maxRecDepth 100000 in
theorem z74 : wZ (.fieldLink RX11 43 "MotionFloorModel$Hall" "to" "[I") := ⟨wT5 (List.mem_of_getElem? (i := 74) (by decide +kernel)), Or.inl rfl⟩
set_option maxRecDepth 100000 in
theorem z75 : wZ (.fieldLink RX11 40 "MotionFloorModel$Hall" "from" "[I") := ⟨wT5 (List.mem_of_getElem? (i := 72) (by decide +kernel)), Or.inl rfl⟩
set_option maxRecDepth 100000 in
theorem z76 : wZ (.fieldLink RX11 37 "MotionFloorModel$Hall" "words" "[I") := ⟨wT5 (List.mem_of_getElem? (i := 70) (by decide +kernel)), Or.inl rfl⟩
set_option maxRecDepth 100000 in
theorem z77 : wZ (.fieldLink RX11 25 "MotionFloorModel$Hall" "mover" "[I") := ⟨wT5 (List.mem_of_getElem? (i := 62) (by decide +kernel)), Or.inl rfl⟩
set_option maxRecDepth 100000 in
theorem z78 : wZ (.fieldLink RX11 22 "MotionFloorModel$Hall" "kind" "[I") := ⟨wT5 (List.mem_of_getElem? (i := 60) (by decide +kernel)), Or.inl rfl⟩
set_option maxRecDepth 100000 in
theorem z79 : wZ (.fieldLink RX11 19 "MotionFloorModel$Hall" "used" "[Z") := ⟨wT5 (List.mem_of_getElem? (i := 59) (by decide +kernel)), Or.inl rfl⟩
set_option maxRecDepth 100000 in
theorem z80 : wZ (.code yX11_newSlot cX11_newSlot 3 (some .int)) := ⟨wT6 (List.mem_of_getElem? (i := 64) rfl), Or.inl rfl⟩
set_option maxRecDepth 100000 in
theorem z81 : wZ (.fieldLink RX11 81 "MotionFloorModel$Hall" "lying" "[I") := ⟨wT5 (List.mem_of_getElem? (i := 96) (by decide +kernel)), Or.inl rfl⟩
set_option maxRecDepth 100000 in
theorem z82 : wZ (.code yX11_free cX11_free 2 (some .int)) := ⟨wT6 (List.mem_of_getElem? (i := 48) rfl), Or.inl rfl⟩
set_option maxRecDepth 100000 in
theorem z83 : wZ (.code yX11_freePlaces cX11_freePlaces 3 (some .int)) := ⟨wT6 (List.mem_of_getElem? (i := 36) rfl), Or.inl rfl⟩
set_option maxRecDepth 100000 in
theorem z84 : wZ (.fieldLink RX11 75 "MotionFloorModel$Hall" "draft" "[I") := ⟨wT5 (List.mem_of_getElem? (i := 92) (by decide +kernel)), Or.inl rfl⟩
set_option maxRecDepth 100000 in
theorem z85 : wZ (.fieldLink RX11 151 "MotionFloorModel$Hall" "draftTabled" "Z") := ⟨wT5 (List.mem_of_getElem? (i := 100) (by decide +kernel)), Or.inl rfl⟩
set_option maxRecDepth 100000 in
theorem z86 : wZ (.fieldLink RX11 130 "MotionFloorModel$Hall" "drafted" "I") := ⟨wT5 (List.mem_of_getElem? (i := 98) (by decide +kernel)), Or.inl rfl⟩
set_option maxRecDepth 100000 in
theorem z87 : wZ (.code yX11_hasDraft cX11_hasDraft 3 (some .boolean)) := ⟨wT6 (List.mem_of_getElem? (i := 17) rfl), Or.inl rfl⟩
set_option maxRecDepth 100000 in
theorem z88 : wZ (.code yX11_wantsPlace cX11_wantsPlace 2 (some .boolean)) := ⟨wT6 (List.mem_of_getElem? (i := 40) rfl), Or.inl rfl⟩
set_option maxRecDepth 100000 in
theorem z89 : wZ (.selects RX11 yX11_top yX11_top) := ⟨wT6 (List.mem_of_getElem? (i := 8) (by decide +kernel)), Or.inl rfl⟩
set_option maxRecDepth 100000 in
theorem z90 : wZ (.instanceMethod yX11_top) := ⟨wT6 (List.mem_of_getElem? (i := 7) (by decide +kernel)), Or.inl rfl⟩
set_option maxRecDepth 100000 in
theorem z91 : wZ (.methodLink RX11 155 yX11_top) := ⟨wT6 (List.mem_of_getElem? (i := 6) (by decide +kernel)), Or.inl rfl⟩
set_option maxRecDepth 100000 in
theorem z92 : wZ (.code yX11_isAbout cX11_isAbout 3 (some .boolean)) := ⟨wT6 (List.mem_of_getElem? (i := 32) rfl), Or.inl rfl⟩
set_option maxRecDepth 100000 in
theorem z93 : wZ (.code yX11_hasSeconder cX11_hasSeconder 1 (some .boolean)) := ⟨wT6 (List.mem_of_getElem? (i := 13) rfl), Or.inl rfl⟩
set_option maxRecDepth 100000 in
theorem z94 : wZ (.static yX11_isWord) := ⟨wT6 (List.mem_of_getElem? (i := 23) (by decide +kernel)), Or.inl rfl⟩
set_option maxRecDepth 100000 in
theorem z95 : wZ (.methodLink RX11 181 yX11_isWord) := ⟨wT6 (List.mem_of_getElem? (i := 22) (by decide +kernel)), Or.inl rfl⟩
set_option maxRecDepth 100000 in
theorem z96 : wZ (.selects RX11 yX11_hasDraft yX11_hasDraft) := ⟨List.mem_append_left _ (List.mem_of_getElem? (i := 5) (by decide +kernel)), Or.inl rfl⟩
set_option maxRecDepth 100000 in
theorem z97 : wZ (.instanceMethod yX11_hasDraft) := ⟨wT6 (List.mem_of_getElem? (i := 16) (by decide +kernel)), Or.inl rfl⟩
set_option maxRecDepth 100000 in
theorem z98 : wZ (.methodLink RX11 163 yX11_hasDraft) := ⟨wT6 (List.mem_of_getElem? (i := 14) (by decide +kernel)), Or.inl rfl⟩
set_option maxRecDepth 100000 in
theorem z99 : wZ (.code yX11_reasonOfWord cX11_reasonOfWord 6 (some .int)) := ⟨wT6 (List.mem_of_getElem? (i := 21) rfl), Or.inl rfl⟩
set_option maxRecDepth 100000 in
theorem z100 : wZ (.selects RX11 yX11_isAbout yX11_isAbout) := ⟨List.mem_append_left _ (List.mem_of_getElem? (i := 8) (by decide +kernel)), Or.inl rfl⟩
set_option maxRecDepth 100000 in
theorem z101 : wZ (.instanceMethod yX11_isAbout) := ⟨wT6 (List.mem_of_getElem? (i := 31) (by decide +kernel)), Or.inl rfl⟩
set_option maxRecDepth 100000 in
theorem z102 : wZ (.methodLink RX11 184 yX11_isAbout) := ⟨wT6 (List.mem_of_getElem? (i := 29) (by decide +kernel)), Or.inl rfl⟩
set_option maxRecDepth 100000 in
theorem z103 : wZ (.selects RX11 yX11_wantsPlace yX11_wantsPlace) := ⟨List.mem_append_left _ (List.mem_of_getElem? (i := 10) (by decide +kernel)), Or.inl rfl⟩
set_option maxRecDepth 100000 in
theorem z104 : wZ (.instanceMethod yX11_wantsPlace) := ⟨wT6 (List.mem_of_getElem? (i := 39) (by decide +kernel)), Or.inl rfl⟩
set_option maxRecDepth 100000 in
theorem z105 : wZ (.methodLink RX11 190 yX11_wantsPlace) := ⟨wT6 (List.mem_of_getElem? (i := 37) (by decide +kernel)), Or.inl rfl⟩
set_option maxRecDepth 100000 in
theorem z106 : wZ (.selects RX11 yX11_freePlaces yX11_freePlaces) := ⟨List.mem_append_left _ (List.mem_of_getElem? (i := 9) (by decide +kernel)), Or.inl rfl⟩
set_option maxRecDepth 100000 in
theorem z107 : wZ (.instanceMethod yX11_freePlaces) := ⟨wT6 (List.mem_of_getElem? (i := 35) (by decide +kernel)), Or.inl rfl⟩
set_option maxRecDepth 100000 in
theorem z108 : wZ (.methodLink RX11 187 yX11_freePlaces) := ⟨wT6 (List.mem_of_getElem? (i := 33) (by decide +kernel)), Or.inl rfl⟩
set_option maxRecDepth 100000 in
theorem z109 : wZ (.code yX11_reasonOfLay cX11_reasonOfLay 2 (some .int)) := ⟨wT6 (List.mem_of_getElem? (i := 28) rfl), Or.inl rfl⟩
set_option maxRecDepth 100000 in
theorem z110 : wZ (.selects RX11 yX11_hasSeconder yX11_hasSeconder) := ⟨List.mem_append_left _ (List.mem_of_getElem? (i := 4) (by decide +kernel)), Or.inl rfl⟩
set_option maxRecDepth 100000 in
theorem z111 : wZ (.instanceMethod yX11_hasSeconder) := ⟨wT6 (List.mem_of_getElem? (i := 12) (by decide +kernel)), Or.inl rfl⟩
set_option maxRecDepth 100000 in
theorem z112 : wZ (.methodLink RX11 159 yX11_hasSeconder) := ⟨wT6 (List.mem_of_getElem? (i := 10) (by decide +kernel)), Or.inl rfl⟩
set_option maxRecDepth 100000 in
theorem z113 : wZ (.selects RX11 yX11_free yX11_free) := ⟨List.mem_append_left _ (List.mem_of_getElem? (i := 11) (by decide +kernel)), Or.inl rfl⟩
set_option maxRecDepth 100000 in
theorem z114 : wZ (.instanceMethod yX11_free) := ⟨wT6 (List.mem_of_getElem? (i := 47) (by decide +kernel)), Or.inl rfl⟩
set_option maxRecDepth 100000 in
theorem z115 : wZ (.methodLink RX11 193 yX11_free) := ⟨wT6 (List.mem_of_getElem? (i := 45) (by decide +kernel)), Or.inl rfl⟩
set_option maxRecDepth 100000 in
theorem z116 : wZ (.fieldLink RX11 106 "MotionFloorModel$Hall" "quorum" "I") := ⟨wT5 (List.mem_of_getElem? (i := 40) (by decide +kernel)), Or.inl rfl⟩
set_option maxRecDepth 100000 in
theorem z117 : wZ (.fieldLink RX11 100 "MotionFloorModel$Hall" "there" "I") := ⟨wT5 (List.mem_of_getElem? (i := 36) (by decide +kernel)), Or.inl rfl⟩
set_option maxRecDepth 100000 in
theorem z118 : wZ (.fieldLink RX11 112 "MotionFloorModel$Hall" "floor" "I") := ⟨wT5 (List.mem_of_getElem? (i := 44) (by decide +kernel)), Or.inl rfl⟩
set_option maxRecDepth 100000 in
theorem z119 : wZ (.code yX11_reasonOfMove cX11_reasonOfMove 7 (some .int)) := ⟨wT6 (List.mem_of_getElem? (i := 44) rfl), Or.inl rfl⟩
set_option maxRecDepth 100000 in
theorem z120 : wZ (.selects RX11 yX11_isHere yX11_isHere) := ⟨List.mem_append_left _ (List.mem_of_getElem? (i := 12) (by decide +kernel)), Or.inl rfl⟩
set_option maxRecDepth 100000 in
theorem z121 : wZ (.instanceMethod yX11_isHere) := ⟨wT6 (List.mem_of_getElem? (i := 51) (by decide +kernel)), Or.inl rfl⟩
set_option maxRecDepth 100000 in
theorem z122 : wZ (.methodLink RX11 178 yX11_isHere) := ⟨wT6 (List.mem_of_getElem? (i := 49) (by decide +kernel)), Or.inl rfl⟩
set_option maxRecDepth 100000 in
theorem z123 : wZ (.selects RX11 yX11_reasonOfMove yX11_reasonOfMove) := ⟨wT6 (List.mem_of_getElem? (i := 43) (by decide +kernel)), Or.inl rfl⟩
set_option maxRecDepth 100000 in
theorem z124 : wZ (.instanceMethod yX11_reasonOfMove) := ⟨wT6 (List.mem_of_getElem? (i := 42) (by decide +kernel)), Or.inl rfl⟩
set_option maxRecDepth 100000 in
theorem z125 : wZ (.methodLink RX11 175 yX11_reasonOfMove) := ⟨wT6 (List.mem_of_getElem? (i := 41) (by decide +kernel)), Or.inl rfl⟩
set_option maxRecDepth 100000 in
theorem z126 : wZ (.selects RX11 yX11_reasonOfLay yX11_reasonOfLay) := ⟨List.mem_append_left _ (List.mem_of_getElem? (i := 7) (by decide +kernel)), Or.inl rfl⟩
set_option maxRecDepth 100000 in
theorem z127 : wZ (.instanceMethod yX11_reasonOfLay) := ⟨wT6 (List.mem_of_getElem? (i := 27) (by decide +kernel)), Or.inl rfl⟩
set_option maxRecDepth 100000 in
theorem z128 : wZ (.methodLink RX11 171 yX11_reasonOfLay) := ⟨wT6 (List.mem_of_getElem? (i := 25) (by decide +kernel)), Or.inl rfl⟩
set_option maxRecDepth 100000 in
theorem z129 : wZ (.selects RX11 yX11_reasonOfWord yX11_reasonOfWord) := ⟨List.mem_append_left _ (List.mem_of_getElem? (i := 6) (by decide +kernel)), Or.inl rfl⟩
set_option maxRecDepth 100000 in
theorem z130 : wZ (.instanceMethod yX11_reasonOfWord) := ⟨wT6 (List.mem_of_getElem? (i := 20) (by decide +kernel)), Or.inl rfl⟩
set_option maxRecDepth 100000 in
theorem z131 : wZ (.methodLink RX11 167 yX11_reasonOfWord) := ⟨wT6 (List.mem_of_getElem? (i := 18) (by decide +kernel)), Or.inl rfl⟩
set_option maxRecDepth 100000 in
theorem z132 : wZ (.fieldLink RX11 109 "MotionFloorModel$Hall" "limit" "I") := ⟨wT5 (List.mem_of_getElem? (i := 42) (by decide +kernel)), Or.inl rfl⟩
set_option maxRecDepth 100000 in
theorem z133 : wZ (.fieldLink RX11 103 "MotionFloorModel$Hall" "chair" "I") := ⟨wT5 (List.mem_of_getElem? (i := 38) (by decide +kernel)), Or.inl rfl⟩
set_option maxRecDepth 100000 in
theorem z134 : wZ (.code yX11_reason cX11_reason 6 (some .int)) := ⟨wT6 (List.mem_of_getElem? (i := 0) rfl), Or.inl rfl⟩
set_option maxRecDepth 100000 in
theorem z135 : wZ (.code yX11_voters cX11_voters 4 (some .int)) := ⟨wT6 (List.mem_of_getElem? (i := 88) rfl), Or.inl rfl⟩
set_option maxRecDepth 100000 in
theorem z136 : wZ (.code yX11_dropDraft cX11_dropDraft 2 none) := ⟨wT6 (List.mem_of_getElem? (i := 60) rfl), Or.inl rfl⟩
set_option maxRecDepth 100000 in
theorem z137 : wZ (.fieldLink RX11 65 "MotionFloorModel$Hall" "text" "[I") := ⟨wT5 (List.mem_of_getElem? (i := 85) (by decide +kernel)), Or.inl rfl⟩
set_option maxRecDepth 100000 in
theorem z138 : wZ (.code yX11_addWord cX11_addWord 3 none) := ⟨wT6 (List.mem_of_getElem? (i := 72) rfl), Or.inl rfl⟩
set_option maxRecDepth 100000 in
theorem z139 : wZ (.code yX11_goes cX11_goes 1 none) := ⟨wT6 (List.mem_of_getElem? (i := 92) rfl), Or.inl rfl⟩
set_option maxRecDepth 100000 in
theorem z140 : wZ (.fieldLink RX11 78 "MotionFloorModel$Hall" "desk" "[I") := ⟨wT5 (List.mem_of_getElem? (i := 94) (by decide +kernel)), Or.inl rfl⟩
set_option maxRecDepth 100000 in
theorem z141 : wZ (.fieldLink RX11 84 "MotionFloorModel$Hall" "tabled" "[Z") := ⟨wT5 (List.mem_of_getElem? (i := 102) (by decide +kernel)), Or.inl rfl⟩
set_option maxRecDepth 100000 in
theorem z142 : wZ (.code yX11_lay cX11_lay 4 (some .int)) := ⟨wT6 (List.mem_of_getElem? (i := 76) rfl), Or.inl rfl⟩
set_option maxRecDepth 100000 in
theorem z143 : wZ (.code yX11_take cX11_take 3 (some .int)) := ⟨wT6 (List.mem_of_getElem? (i := 80) rfl), Or.inl rfl⟩
set_option maxRecDepth 100000 in
theorem z144 : wZ (.code yX11_move cX11_move 4 (some .int)) := ⟨wT6 (List.mem_of_getElem? (i := 84) rfl), Or.inl rfl⟩
set_option maxRecDepth 100000 in
theorem z145 : wZ (.code yX11_isPending cX11_isPending 3 (some .boolean)) := ⟨wT6 (List.mem_of_getElem? (i := 112) rfl), Or.inl rfl⟩
set_option maxRecDepth 100000 in
theorem z146 : wZ (.selects RX11 yX11_isPending yX11_isPending) := ⟨List.mem_append_left _ (List.mem_of_getElem? (i := 26) (by decide +kernel)), Or.inl rfl⟩
set_option maxRecDepth 100000 in
theorem z147 : wZ (.instanceMethod yX11_isPending) := ⟨wT6 (List.mem_of_getElem? (i := 111) (by decide +kernel)), Or.inl rfl⟩
set_option maxRecDepth 100000 in
theorem z148 : wZ (.methodLink RX11 243 yX11_isPending) := ⟨wT6 (List.mem_of_getElem? (i := 109) (by decide +kernel)), Or.inl rfl⟩
set_option maxRecDepth 100000 in
theorem z149 : wZ (.code yX11_change cX11_change 10 none) := ⟨wT6 (List.mem_of_getElem? (i := 108) rfl), Or.inl rfl⟩
set_option maxRecDepth 100000 in
theorem z150 : wZ (.code yX11_carries cX11_carries 4 (some .boolean)) := ⟨wT6 (List.mem_of_getElem? (i := 100) rfl), Or.inl rfl⟩
set_option maxRecDepth 100000 in
theorem z151 : wZ (.selects RX11 yX11_change yX11_change) := ⟨List.mem_append_left _ (List.mem_of_getElem? (i := 25) (by decide +kernel)), Or.inl rfl⟩
set_option maxRecDepth 100000 in
theorem z152 : wZ (.instanceMethod yX11_change) := ⟨wT6 (List.mem_of_getElem? (i := 107) (by decide +kernel)), Or.inl rfl⟩
set_option maxRecDepth 100000 in
theorem z153 : wZ (.methodLink RX11 240 yX11_change) := ⟨wT6 (List.mem_of_getElem? (i := 105) (by decide +kernel)), Or.inl rfl⟩
set_option maxRecDepth 100000 in
theorem z154 : wZ (.fieldLink RX11 87 "MotionFloorModel$Hall" "last" "[I") := ⟨wT5 (List.mem_of_getElem? (i := 104) (by decide +kernel)), Or.inl rfl⟩
set_option maxRecDepth 100000 in
theorem z155 : wZ (.selects RX11 yX11_goes yX11_goes) := ⟨List.mem_append_left _ (List.mem_of_getElem? (i := 21) (by decide +kernel)), Or.inl rfl⟩
set_option maxRecDepth 100000 in
theorem z156 : wZ (.instanceMethod yX11_goes) := ⟨wT6 (List.mem_of_getElem? (i := 91) (by decide +kernel)), Or.inl rfl⟩
set_option maxRecDepth 100000 in
theorem z157 : wZ (.methodLink RX11 227 yX11_goes) := ⟨wT6 (List.mem_of_getElem? (i := 89) (by decide +kernel)), Or.inl rfl⟩
set_option maxRecDepth 100000 in
theorem z158 : wZ (.fieldLink RX11 133 "MotionFloorModel$Hall" "lastWords" "I") := ⟨wT5 (List.mem_of_getElem? (i := 105) (by decide +kernel)), Or.inl rfl⟩
set_option maxRecDepth 100000 in
theorem z159 : wZ (.fieldLink RX11 124 "MotionFloorModel$Hall" "adopted" "I") := ⟨wT5 (List.mem_of_getElem? (i := 52) (by decide +kernel)), Or.inl rfl⟩
set_option maxRecDepth 100000 in
theorem z160 : wZ (.code yX11_carried cX11_carried 5 none) := ⟨wT6 (List.mem_of_getElem? (i := 104) rfl), Or.inl rfl⟩
set_option maxRecDepth 100000 in
theorem z161 : wZ (.selects RX11 yX11_carried yX11_carried) := ⟨List.mem_append_left _ (List.mem_of_getElem? (i := 24) (by decide +kernel)), Or.inl rfl⟩
set_option maxRecDepth 100000 in
theorem z162 : wZ (.instanceMethod yX11_carried) := ⟨wT6 (List.mem_of_getElem? (i := 103) (by decide +kernel)), Or.inl rfl⟩
set_option maxRecDepth 100000 in
theorem z163 : wZ (.methodLink RX11 236 yX11_carried) := ⟨wT6 (List.mem_of_getElem? (i := 101) (by decide +kernel)), Or.inl rfl⟩
set_option maxRecDepth 100000 in
theorem z164 : wZ (.fieldLink RX11 118 "MotionFloorModel$Hall" "entries" "I") := ⟨wT5 (List.mem_of_getElem? (i := 48) (by decide +kernel)), Or.inl rfl⟩
set_option maxRecDepth 100000 in
theorem z165 : wZ (.fieldLink RX11 93 "MotionFloorModel$Hall" "result" "[I") := ⟨wT5 (List.mem_of_getElem? (i := 109) (by decide +kernel)), Or.inl rfl⟩
set_option maxRecDepth 100000 in
theorem z166 : wZ (.fieldLink RX11 121 "MotionFloorModel$Hall" "results" "I") := ⟨wT5 (List.mem_of_getElem? (i := 50) (by decide +kernel)), Or.inl rfl⟩
set_option maxRecDepth 100000 in
theorem z167 : wZ (.selects RX11 yX11_carries yX11_carries) := ⟨List.mem_append_left _ (List.mem_of_getElem? (i := 23) (by decide +kernel)), Or.inl rfl⟩
set_option maxRecDepth 100000 in
theorem z168 : wZ (.instanceMethod yX11_carries) := ⟨wT6 (List.mem_of_getElem? (i := 99) (by decide +kernel)), Or.inl rfl⟩
set_option maxRecDepth 100000 in
theorem z169 : wZ (.methodLink RX11 233 yX11_carries) := ⟨wT6 (List.mem_of_getElem? (i := 97) (by decide +kernel)), Or.inl rfl⟩
set_option maxRecDepth 100000 in
theorem z170 : wZ (.fieldLink RX11 15 "MotionFloorModel$Hall" "majority" "[I") := ⟨wT5 (List.mem_of_getElem? (i := 58) (by decide +kernel)), Or.inl rfl⟩
set_option maxRecDepth 100000 in
theorem z171 : wZ (.code yX11_told cX11_told 7 (some .int)) := ⟨wT6 (List.mem_of_getElem? (i := 96) rfl), Or.inl rfl⟩
set_option maxRecDepth 100000 in
theorem z172 : wZ (.selects RX11 yX11_told yX11_told) := ⟨List.mem_append_left _ (List.mem_of_getElem? (i := 22) (by decide +kernel)), Or.inl rfl⟩
set_option maxRecDepth 100000 in
theorem z173 : wZ (.instanceMethod yX11_told) := ⟨wT6 (List.mem_of_getElem? (i := 95) (by decide +kernel)), Or.inl rfl⟩
set_option maxRecDepth 100000 in
theorem z174 : wZ (.methodLink RX11 230 yX11_told) := ⟨wT6 (List.mem_of_getElem? (i := 93) (by decide +kernel)), Or.inl rfl⟩
set_option maxRecDepth 100000 in
theorem z175 : wZ (.selects RX11 yX11_voters yX11_voters) := ⟨wT6 (List.mem_of_getElem? (i := 87) (by decide +kernel)), Or.inl rfl⟩
set_option maxRecDepth 100000 in
theorem z176 : wZ (.instanceMethod yX11_voters) := ⟨wT6 (List.mem_of_getElem? (i := 86) (by decide +kernel)), Or.inl rfl⟩
set_option maxRecDepth 100000 in
theorem z177 : wZ (.methodLink RX11 224 yX11_voters) := ⟨wT6 (List.mem_of_getElem? (i := 85) (by decide +kernel)), Or.inl rfl⟩
set_option maxRecDepth 100000 in
theorem z178 : wZ (.selects RX11 yX11_move yX11_move) := ⟨List.mem_append_left _ (List.mem_of_getElem? (i := 20) (by decide +kernel)), Or.inl rfl⟩
set_option maxRecDepth 100000 in
theorem z179 : wZ (.instanceMethod yX11_move) := ⟨wT6 (List.mem_of_getElem? (i := 83) (by decide +kernel)), Or.inl rfl⟩
set_option maxRecDepth 100000 in
theorem z180 : wZ (.methodLink RX11 221 yX11_move) := ⟨wT6 (List.mem_of_getElem? (i := 81) (by decide +kernel)), Or.inl rfl⟩
set_option maxRecDepth 100000 in
theorem z181 : wZ (.selects RX11 yX11_take yX11_take) := ⟨List.mem_append_left _ (List.mem_of_getElem? (i := 19) (by decide +kernel)), Or.inl rfl⟩
set_option maxRecDepth 100000 in
theorem z182 : wZ (.instanceMethod yX11_take) := ⟨wT6 (List.mem_of_getElem? (i := 79) (by decide +kernel)), Or.inl rfl⟩
set_option maxRecDepth 100000 in
theorem z183 : wZ (.methodLink RX11 218 yX11_take) := ⟨wT6 (List.mem_of_getElem? (i := 77) (by decide +kernel)), Or.inl rfl⟩
set_option maxRecDepth 100000 in
theorem z184 : wZ (.selects RX11 yX11_lay yX11_lay) := ⟨List.mem_append_left _ (List.mem_of_getElem? (i := 18) (by decide +kernel)), Or.inl rfl⟩
set_option maxRecDepth 100000 in
theorem z185 : wZ (.instanceMethod yX11_lay) := ⟨wT6 (List.mem_of_getElem? (i := 75) (by decide +kernel)), Or.inl rfl⟩
set_option maxRecDepth 100000 in
theorem z186 : wZ (.methodLink RX11 215 yX11_lay) := ⟨wT6 (List.mem_of_getElem? (i := 73) (by decide +kernel)), Or.inl rfl⟩
set_option maxRecDepth 100000 in
theorem z187 : wZ (.selects RX11 yX11_addWord yX11_addWord) := ⟨List.mem_append_left _ (List.mem_of_getElem? (i := 17) (by decide +kernel)), Or.inl rfl⟩
set_option maxRecDepth 100000 in
theorem z188 : wZ (.instanceMethod yX11_addWord) := ⟨wT6 (List.mem_of_getElem? (i := 71) (by decide +kernel)), Or.inl rfl⟩
set_option maxRecDepth 100000 in
theorem z189 : wZ (.methodLink RX11 212 yX11_addWord) := ⟨wT6 (List.mem_of_getElem? (i := 69) (by decide +kernel)), Or.inl rfl⟩
set_option maxRecDepth 100000 in
theorem z190 : wZ (.selects RX11 yX11_newSlot yX11_newSlot) := ⟨List.mem_append_left _ (List.mem_of_getElem? (i := 15) (by decide +kernel)), Or.inl rfl⟩
set_option maxRecDepth 100000 in
theorem z191 : wZ (.instanceMethod yX11_newSlot) := ⟨wT6 (List.mem_of_getElem? (i := 63) (by decide +kernel)), Or.inl rfl⟩
set_option maxRecDepth 100000 in
theorem z192 : wZ (.methodLink RX11 209 yX11_newSlot) := ⟨wT6 (List.mem_of_getElem? (i := 61) (by decide +kernel)), Or.inl rfl⟩
set_option maxRecDepth 100000 in
theorem z193 : wZ (.selects RX11 yX11_dropDraft yX11_dropDraft) := ⟨List.mem_append_left _ (List.mem_of_getElem? (i := 14) (by decide +kernel)), Or.inl rfl⟩
set_option maxRecDepth 100000 in
theorem z194 : wZ (.instanceMethod yX11_dropDraft) := ⟨wT6 (List.mem_of_getElem? (i := 59) (by decide +kernel)), Or.inl rfl⟩
set_option maxRecDepth 100000 in
theorem z195 : wZ (.methodLink RX11 206 yX11_dropDraft) := ⟨wT6 (List.mem_of_getElem? (i := 57) (by decide +kernel)), Or.inl rfl⟩
set_option maxRecDepth 100000 in
theorem z196 : wZ (.code yX11_does cX11_does 7 (some .int)) := ⟨wT6 (List.mem_of_getElem? (i := 56) rfl), Or.inl rfl⟩
set_option maxRecDepth 100000 in
theorem z197 : wZ (.fieldLink RX11 90 "MotionFloorModel$Hall" "minutes" "[I") := ⟨wT5 (List.mem_of_getElem? (i := 107) (by decide +kernel)), Or.inl rfl⟩
set_option maxRecDepth 100000 in
theorem z198 : wZ (.static yX12_numbers) := ⟨wT6 (List.mem_of_getElem? (i := 114) (by decide +kernel)), Or.inl rfl⟩
