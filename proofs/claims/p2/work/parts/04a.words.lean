set_option maxRecDepth 100000 in
theorem z0 : wZ (.code yX12_in cX12_in 3 (some .boolean)) := ⟨wT5 (List.mem_of_getElem? (i := 228) rfl), Or.inl rfl⟩
set_option maxRecDepth 100000 in
theorem z1 : wZ (.lays "MotionFloorModel$Hall" "MotionFloorModel$Hall" "seats" "I") := ⟨wT5 (List.mem_of_getElem? (i := 111) (by decide +kernel)), Or.inl rfl⟩
set_option maxRecDepth 100000 in
theorem z2 : wZ (.lays "MotionFloorModel$Hall" "MotionFloorModel$Hall" "there" "I") := ⟨wT5 (List.mem_of_getElem? (i := 113) (by decide +kernel)), Or.inl rfl⟩
set_option maxRecDepth 100000 in
theorem z3 : wZ (.lays "MotionFloorModel$Hall" "MotionFloorModel$Hall" "chair" "I") := ⟨wT5 (List.mem_of_getElem? (i := 115) (by decide +kernel)), Or.inl rfl⟩
set_option maxRecDepth 100000 in
theorem z4 : wZ (.lays "MotionFloorModel$Hall" "MotionFloorModel$Hall" "quorum" "I") := ⟨wT5 (List.mem_of_getElem? (i := 117) (by decide +kernel)), Or.inl rfl⟩
set_option maxRecDepth 100000 in
theorem z5 : wZ (.lays "MotionFloorModel$Hall" "MotionFloorModel$Hall" "limit" "I") := ⟨wT5 (List.mem_of_getElem? (i := 119) (by decide +kernel)), Or.inl rfl⟩
set_option maxRecDepth 100000 in
theorem z6 : wZ (.lays "MotionFloorModel$Hall" "MotionFloorModel$Hall" "floor" "I") := ⟨wT5 (List.mem_of_getElem? (i := 121) (by decide +kernel)), Or.inl rfl⟩
set_option maxRecDepth 100000 in
theorem z7 : wZ (.lays "MotionFloorModel$Hall" "MotionFloorModel$Hall" "pending" "I") := ⟨wT5 (List.mem_of_getElem? (i := 123) (by decide +kernel)), Or.inl rfl⟩
set_option maxRecDepth 100000 in
theorem z8 : wZ (.lays "MotionFloorModel$Hall" "MotionFloorModel$Hall" "entries" "I") := ⟨wT5 (List.mem_of_getElem? (i := 125) (by decide +kernel)), Or.inl rfl⟩
set_option maxRecDepth 100000 in
theorem z9 : wZ (.lays "MotionFloorModel$Hall" "MotionFloorModel$Hall" "results" "I") := ⟨wT5 (List.mem_of_getElem? (i := 127) (by decide +kernel)), Or.inl rfl⟩
set_option maxRecDepth 100000 in
theorem z10 : wZ (.lays "MotionFloorModel$Hall" "MotionFloorModel$Hall" "adopted" "I") := ⟨wT5 (List.mem_of_getElem? (i := 129) (by decide +kernel)), Or.inl rfl⟩
set_option maxRecDepth 100000 in
theorem z11 : wZ (.lays "MotionFloorModel$Hall" "MotionFloorModel$Hall" "why" "I") := ⟨wT5 (List.mem_of_getElem? (i := 131) (by decide +kernel)), Or.inl rfl⟩
set_option maxRecDepth 100000 in
theorem z12 : wZ (.laysFinal "MotionFloorModel$Hall" "MotionFloorModel$Hall" "isThere" "[Z") := ⟨wT5 (List.mem_of_getElem? (i := 133) (by decide +kernel)), Or.inl rfl⟩
set_option maxRecDepth 100000 in
theorem z13 : wZ (.laysFinal "MotionFloorModel$Hall" "MotionFloorModel$Hall" "majority" "[I") := ⟨wT5 (List.mem_of_getElem? (i := 135) (by decide +kernel)), Or.inl rfl⟩
set_option maxRecDepth 100000 in
theorem z14 : wZ (.laysFinal "MotionFloorModel$Hall" "MotionFloorModel$Hall" "used" "[Z") := ⟨wT5 (List.mem_of_getElem? (i := 137) (by decide +kernel)), Or.inl rfl⟩
set_option maxRecDepth 100000 in
theorem z15 : wZ (.laysFinal "MotionFloorModel$Hall" "MotionFloorModel$Hall" "kind" "[I") := ⟨wT5 (List.mem_of_getElem? (i := 139) (by decide +kernel)), Or.inl rfl⟩
set_option maxRecDepth 100000 in
theorem z16 : wZ (.laysFinal "MotionFloorModel$Hall" "MotionFloorModel$Hall" "mover" "[I") := ⟨wT5 (List.mem_of_getElem? (i := 141) (by decide +kernel)), Or.inl rfl⟩
set_option maxRecDepth 100000 in
theorem z17 : wZ (.laysFinal "MotionFloorModel$Hall" "MotionFloorModel$Hall" "seconder" "[I") := ⟨wT5 (List.mem_of_getElem? (i := 143) (by decide +kernel)), Or.inl rfl⟩
set_option maxRecDepth 100000 in
theorem z18 : wZ (.laysFinal "MotionFloorModel$Hall" "MotionFloorModel$Hall" "floors" "[I") := ⟨wT5 (List.mem_of_getElem? (i := 145) (by decide +kernel)), Or.inl rfl⟩
set_option maxRecDepth 100000 in
theorem z19 : wZ (.laysFinal "MotionFloorModel$Hall" "MotionFloorModel$Hall" "speeches" "[I") := ⟨wT5 (List.mem_of_getElem? (i := 147) (by decide +kernel)), Or.inl rfl⟩
set_option maxRecDepth 100000 in
theorem z20 : wZ (.laysFinal "MotionFloorModel$Hall" "MotionFloorModel$Hall" "words" "[I") := ⟨wT5 (List.mem_of_getElem? (i := 149) (by decide +kernel)), Or.inl rfl⟩
set_option maxRecDepth 100000 in
theorem z21 : wZ (.laysFinal "MotionFloorModel$Hall" "MotionFloorModel$Hall" "from" "[I") := ⟨wT5 (List.mem_of_getElem? (i := 151) (by decide +kernel)), Or.inl rfl⟩
set_option maxRecDepth 100000 in
theorem z22 : wZ (.laysFinal "MotionFloorModel$Hall" "MotionFloorModel$Hall" "to" "[I") := ⟨wT5 (List.mem_of_getElem? (i := 153) (by decide +kernel)), Or.inl rfl⟩
set_option maxRecDepth 100000 in
theorem z23 : wZ (.laysFinal "MotionFloorModel$Hall" "MotionFloorModel$Hall" "self" "[I") := ⟨wT5 (List.mem_of_getElem? (i := 155) (by decide +kernel)), Or.inl rfl⟩
set_option maxRecDepth 100000 in
theorem z24 : wZ (.laysFinal "MotionFloorModel$Hall" "MotionFloorModel$Hall" "subject" "[I") := ⟨wT5 (List.mem_of_getElem? (i := 157) (by decide +kernel)), Or.inl rfl⟩
set_option maxRecDepth 100000 in
theorem z25 : wZ (.laysFinal "MotionFloorModel$Hall" "MotionFloorModel$Hall" "closed" "[Z") := ⟨wT5 (List.mem_of_getElem? (i := 159) (by decide +kernel)), Or.inl rfl⟩
set_option maxRecDepth 100000 in
theorem z26 : wZ (.laysFinal "MotionFloorModel$Hall" "MotionFloorModel$Hall" "laid" "[Z") := ⟨wT5 (List.mem_of_getElem? (i := 161) (by decide +kernel)), Or.inl rfl⟩
set_option maxRecDepth 100000 in
theorem z27 : wZ (.laysFinal "MotionFloorModel$Hall" "MotionFloorModel$Hall" "outside" "[Z") := ⟨wT5 (List.mem_of_getElem? (i := 163) (by decide +kernel)), Or.inl rfl⟩
set_option maxRecDepth 100000 in
theorem z28 : wZ (.laysFinal "MotionFloorModel$Hall" "MotionFloorModel$Hall" "letter" "[Z") := ⟨wT5 (List.mem_of_getElem? (i := 165) (by decide +kernel)), Or.inl rfl⟩
set_option maxRecDepth 100000 in
theorem z29 : wZ (.laysFinal "MotionFloorModel$Hall" "MotionFloorModel$Hall" "text" "[I") := ⟨wT5 (List.mem_of_getElem? (i := 167) (by decide +kernel)), Or.inl rfl⟩
set_option maxRecDepth 100000 in
theorem z30 : wZ (.laysFinal "MotionFloorModel$Hall" "MotionFloorModel$Hall" "ballot" "[B") := ⟨wT5 (List.mem_of_getElem? (i := 169) (by decide +kernel)), Or.inl rfl⟩
set_option maxRecDepth 100000 in
theorem z31 : wZ (.lays "MotionFloorModel$Hall" "MotionFloorModel$Hall" "born" "I") := ⟨wT5 (List.mem_of_getElem? (i := 171) (by decide +kernel)), Or.inl rfl⟩
set_option maxRecDepth 100000 in
theorem z32 : wZ (.laysFinal "MotionFloorModel$Hall" "MotionFloorModel$Hall" "row" "[I") := ⟨wT5 (List.mem_of_getElem? (i := 173) (by decide +kernel)), Or.inl rfl⟩
set_option maxRecDepth 100000 in
theorem z33 : wZ (.laysFinal "MotionFloorModel$Hall" "MotionFloorModel$Hall" "draft" "[I") := ⟨wT5 (List.mem_of_getElem? (i := 175) (by decide +kernel)), Or.inl rfl⟩
set_option maxRecDepth 100000 in
theorem z34 : wZ (.laysFinal "MotionFloorModel$Hall" "MotionFloorModel$Hall" "desk" "[I") := ⟨wT5 (List.mem_of_getElem? (i := 177) (by decide +kernel)), Or.inl rfl⟩
set_option maxRecDepth 100000 in
theorem z35 : wZ (.laysFinal "MotionFloorModel$Hall" "MotionFloorModel$Hall" "lying" "[I") := ⟨wT5 (List.mem_of_getElem? (i := 179) (by decide +kernel)), Or.inl rfl⟩
set_option maxRecDepth 100000 in
theorem z36 : wZ (.lays "MotionFloorModel$Hall" "MotionFloorModel$Hall" "drafted" "I") := ⟨wT5 (List.mem_of_getElem? (i := 181) (by decide +kernel)), Or.inl rfl⟩
set_option maxRecDepth 100000 in
theorem z37 : wZ (.lays "MotionFloorModel$Hall" "MotionFloorModel$Hall" "draftTabled" "Z") := ⟨wT5 (List.mem_of_getElem? (i := 183) (by decide +kernel)), Or.inl rfl⟩
set_option maxRecDepth 100000 in
theorem z38 : wZ (.laysFinal "MotionFloorModel$Hall" "MotionFloorModel$Hall" "tabled" "[Z") := ⟨wT5 (List.mem_of_getElem? (i := 185) (by decide +kernel)), Or.inl rfl⟩
set_option maxRecDepth 100000 in
theorem z39 : wZ (.laysFinal "MotionFloorModel$Hall" "MotionFloorModel$Hall" "last" "[I") := ⟨wT5 (List.mem_of_getElem? (i := 187) (by decide +kernel)), Or.inl rfl⟩
set_option maxRecDepth 100000 in
theorem z40 : wZ (.lays "MotionFloorModel$Hall" "MotionFloorModel$Hall" "lastWords" "I") := ⟨wT5 (List.mem_of_getElem? (i := 189) (by decide +kernel)), Or.inl rfl⟩
set_option maxRecDepth 100000 in
theorem z41 : wZ (.laysFinal "MotionFloorModel$Hall" "MotionFloorModel$Hall" "minutes" "[I") := ⟨wT5 (List.mem_of_getElem? (i := 191) (by decide +kernel)), Or.inl rfl⟩
set_option maxRecDepth 100000 in
theorem z42 : wZ (.laysFinal "MotionFloorModel$Hall" "MotionFloorModel$Hall" "result" "[I") := ⟨wT5 (List.mem_of_getElem? (i := 193) (by decide +kernel)), Or.inl rfl⟩
theorem zcX11 : GoodIn lw_tbl wsX110 := by
  show GoodIn lw_tbl [.lays "MotionFloorModel$Hall" "MotionFloorModel$Hall" "seats" "I", .lays "MotionFloorModel$Hall" "MotionFloorModel$Hall" "there" "I", .lays "MotionFloorModel$Hall" "MotionFloorModel$Hall" "chair" "I", .lays "MotionFloorModel$Hall" "MotionFloorModel$Hall" "quorum" "I", .lays "MotionFloorModel$Hall" "MotionFloorModel$Hall" "limit" "I", .lays "MotionFloorModel$Hall" "MotionFloorModel$Hall" "floor" "I", .lays "MotionFloorModel$Hall" "MotionFloorModel$Hall" "pending" "I", .lays "MotionFloorModel$Hall" "MotionFloorModel$Hall" "entries" "I", .lays "MotionFloorModel$Hall" "MotionFloorModel$Hall" "results" "I", .lays "MotionFloorModel$Hall" "MotionFloorModel$Hall" "adopted" "I", .lays "MotionFloorModel$Hall" "MotionFloorModel$Hall" "why" "I", .laysFinal "MotionFloorModel$Hall" "MotionFloorModel$Hall" "isThere" "[Z", .laysFinal "MotionFloorModel$Hall" "MotionFloorModel$Hall" "majority" "[I", .laysFinal "MotionFloorModel$Hall" "MotionFloorModel$Hall" "used" "[Z", .laysFinal "MotionFloorModel$Hall" "MotionFloorModel$Hall" "kind" "[I", .laysFinal "MotionFloorModel$Hall" "MotionFloorModel$Hall" "mover" "[I", .laysFinal "MotionFloorModel$Hall" "MotionFloorModel$Hall" "seconder" "[I", .laysFinal "MotionFloorModel$Hall" "MotionFloorModel$Hall" "floors" "[I", .laysFinal "MotionFloorModel$Hall" "MotionFloorModel$Hall" "speeches" "[I", .laysFinal "MotionFloorModel$Hall" "MotionFloorModel$Hall" "words" "[I", .laysFinal "MotionFloorModel$Hall" "MotionFloorModel$Hall" "from" "[I", .laysFinal "MotionFloorModel$Hall" "MotionFloorModel$Hall" "to" "[I", .laysFinal "MotionFloorModel$Hall" "MotionFloorModel$Hall" "self" "[I", .laysFinal "MotionFloorModel$Hall" "MotionFloorModel$Hall" "subject" "[I", .laysFinal "MotionFloorModel$Hall" "MotionFloorModel$Hall" "closed" "[Z", .laysFinal "MotionFloorModel$Hall" "MotionFloorModel$Hall" "laid" "[Z", .laysFinal "MotionFloorModel$Hall" "MotionFloorModel$Hall" "outside" "[Z", .laysFinal "MotionFloorModel$Hall" "MotionFloorModel$Hall" "letter" "[Z", .laysFinal "MotionFloorModel$Hall" "MotionFloorModel$Hall" "text" "[I", .laysFinal "MotionFloorModel$Hall" "MotionFloorModel$Hall" "ballot" "[B", .lays "MotionFloorModel$Hall" "MotionFloorModel$Hall" "born" "I", .laysFinal "MotionFloorModel$Hall" "MotionFloorModel$Hall" "row" "[I", .laysFinal "MotionFloorModel$Hall" "MotionFloorModel$Hall" "draft" "[I", .laysFinal "MotionFloorModel$Hall" "MotionFloorModel$Hall" "desk" "[I", .laysFinal "MotionFloorModel$Hall" "MotionFloorModel$Hall" "lying" "[I", .lays "MotionFloorModel$Hall" "MotionFloorModel$Hall" "drafted" "I", .lays "MotionFloorModel$Hall" "MotionFloorModel$Hall" "draftTabled" "Z", .laysFinal "MotionFloorModel$Hall" "MotionFloorModel$Hall" "tabled" "[Z", .laysFinal "MotionFloorModel$Hall" "MotionFloorModel$Hall" "last" "[I", .lays "MotionFloorModel$Hall" "MotionFloorModel$Hall" "lastWords" "I", .laysFinal "MotionFloorModel$Hall" "MotionFloorModel$Hall" "minutes" "[I", .laysFinal "MotionFloorModel$Hall" "MotionFloorModel$Hall" "result" "[I"]
  exact wGc z1 (wGc z2 (wGc z3 (wGc z4 (wGc z5 (wGc z6 (wGc z7 (wGc z8 (wGc z9 (wGc z10 (wGc z11 (wGc z12 (wGc z13 (wGc z14 (wGc z15 (wGc z16 (wGc z17 (wGc z18 (wGc z19 (wGc z20 (wGc z21 (wGc z22 (wGc z23 (wGc z24 (wGc z25 (wGc z26 (wGc z27 (wGc z28 (wGc z29 (wGc z30 (wGc z31 (wGc z32 (wGc z33 (wGc z34 (wGc z35 (wGc z36 (wGc z37 (wGc z38 (wGc z39 (wGc z40 (wGc z41 (wGc z42 (wG0))))))))))))))))))))))))))))))))))))))))))
set_option maxRecDepth 100000 in
theorem z43 : wZ (.static yX12_in) := ⟨wT5 (List.mem_of_getElem? (i := 227) (by decide +kernel)), Or.inl rfl⟩
set_option maxRecDepth 100000 in
theorem z44 : wZ (.initialized RX12) := ⟨wT1 (List.mem_of_getElem? (i := 10) (by decide +kernel)), Or.inl rfl⟩
set_option maxRecDepth 100000 in
theorem z45 : wZ (.fieldLink RX11 96 "MotionFloorModel$Hall" "seats" "I") := ⟨wT5 (List.mem_of_getElem? (i := 34) (by decide +kernel)), Or.inl rfl⟩
set_option maxRecDepth 100000 in
theorem z46 : wZ (.code yX11_isSeat cX11_isSeat 2 (some .boolean)) := ⟨wT6 (List.mem_of_getElem? (i := 4) rfl), Or.inl rfl⟩
set_option maxRecDepth 100000 in
theorem z47 : wZ (.fieldLink RX11 115 "MotionFloorModel$Hall" "pending" "I") := ⟨wT5 (List.mem_of_getElem? (i := 46) (by decide +kernel)), Or.inl rfl⟩
set_option maxRecDepth 100000 in
theorem z48 : wZ (.fieldLink RX11 72 "MotionFloorModel$Hall" "row" "[I") := ⟨wT5 (List.mem_of_getElem? (i := 90) (by decide +kernel)), Or.inl rfl⟩
set_option maxRecDepth 100000 in
theorem z49 : wZ (.code yX11_top cX11_top 1 (some .int)) := ⟨wT6 (List.mem_of_getElem? (i := 9) rfl), Or.inl rfl⟩
set_option maxRecDepth 100000 in
theorem z50 : wZ (.fieldLink RX11 9 "MotionFloorModel$Hall" "isThere" "[Z") := ⟨wT5 (List.mem_of_getElem? (i := 56) (by decide +kernel)), Or.inl rfl⟩
set_option maxRecDepth 100000 in
theorem z51 : wZ (.initialized RX11) := ⟨wT1 (List.mem_of_getElem? (i := 11) (by decide +kernel)), Or.inl rfl⟩
set_option maxRecDepth 100000 in
theorem z52 : wZ (.selects RX11 yX11_isSeat yX11_isSeat) := ⟨List.mem_append_left _ (List.mem_of_getElem? (i := 3) (by decide +kernel)), Or.inl rfl⟩
set_option maxRecDepth 100000 in
theorem z53 : wZ (.instanceMethod yX11_isSeat) := ⟨wT6 (List.mem_of_getElem? (i := 3) (by decide +kernel)), Or.inl rfl⟩
set_option maxRecDepth 100000 in
theorem z54 : wZ (.methodLink RX11 140 yX11_isSeat) := ⟨wT6 (List.mem_of_getElem? (i := 1) (by decide +kernel)), Or.inl rfl⟩
set_option maxRecDepth 100000 in
theorem z55 : wZ (.code yX11_isHere cX11_isHere 2 (some .boolean)) := ⟨wT6 (List.mem_of_getElem? (i := 52) rfl), Or.inl rfl⟩
set_option maxRecDepth 100000 in
theorem z56 : wZ (.fieldLink RX11 75 "MotionFloorModel$Hall" "draft" "[I") := ⟨wT5 (List.mem_of_getElem? (i := 92) (by decide +kernel)), Or.inl rfl⟩
set_option maxRecDepth 100000 in
theorem z57 : wZ (.fieldLink RX11 22 "MotionFloorModel$Hall" "kind" "[I") := ⟨wT5 (List.mem_of_getElem? (i := 60) (by decide +kernel)), Or.inl rfl⟩
set_option maxRecDepth 100000 in
theorem z58 : wZ (.fieldLink RX11 151 "MotionFloorModel$Hall" "draftTabled" "Z") := ⟨wT5 (List.mem_of_getElem? (i := 100) (by decide +kernel)), Or.inl rfl⟩
set_option maxRecDepth 100000 in
theorem z59 : wZ (.fieldLink RX11 130 "MotionFloorModel$Hall" "drafted" "I") := ⟨wT5 (List.mem_of_getElem? (i := 98) (by decide +kernel)), Or.inl rfl⟩
set_option maxRecDepth 100000 in
theorem z60 : wZ (.code yX11_hasDraft cX11_hasDraft 3 (some .boolean)) := ⟨wT6 (List.mem_of_getElem? (i := 17) rfl), Or.inl rfl⟩
set_option maxRecDepth 100000 in
theorem z61 : wZ (.selects RX11 yX11_top yX11_top) := ⟨wT6 (List.mem_of_getElem? (i := 8) (by decide +kernel)), Or.inl rfl⟩
set_option maxRecDepth 100000 in
theorem z62 : wZ (.instanceMethod yX11_top) := ⟨wT6 (List.mem_of_getElem? (i := 7) (by decide +kernel)), Or.inl rfl⟩
set_option maxRecDepth 100000 in
theorem z63 : wZ (.methodLink RX11 155 yX11_top) := ⟨wT6 (List.mem_of_getElem? (i := 6) (by decide +kernel)), Or.inl rfl⟩
set_option maxRecDepth 100000 in
theorem z64 : wZ (.code yX11_isAbout cX11_isAbout 3 (some .boolean)) := ⟨wT6 (List.mem_of_getElem? (i := 32) rfl), Or.inl rfl⟩
set_option maxRecDepth 100000 in
theorem z65 : wZ (.fieldLink RX11 28 "MotionFloorModel$Hall" "seconder" "[I") := ⟨wT5 (List.mem_of_getElem? (i := 64) (by decide +kernel)), Or.inl rfl⟩
set_option maxRecDepth 100000 in
theorem z66 : wZ (.code yX11_hasSeconder cX11_hasSeconder 1 (some .boolean)) := ⟨wT6 (List.mem_of_getElem? (i := 13) rfl), Or.inl rfl⟩
set_option maxRecDepth 100000 in
theorem z67 : wZ (.code yX11_isWord cX11_isWord 1 (some .boolean)) := ⟨wT6 (List.mem_of_getElem? (i := 24) rfl), Or.inl rfl⟩
set_option maxRecDepth 100000 in
theorem z68 : wZ (.fieldLink RX11 37 "MotionFloorModel$Hall" "words" "[I") := ⟨wT5 (List.mem_of_getElem? (i := 70) (by decide +kernel)), Or.inl rfl⟩
set_option maxRecDepth 100000 in
theorem z69 : wZ (.static yX11_isWord) := ⟨wT6 (List.mem_of_getElem? (i := 23) (by decide +kernel)), Or.inl rfl⟩
set_option maxRecDepth 100000 in
theorem z70 : wZ (.methodLink RX11 181 yX11_isWord) := ⟨wT6 (List.mem_of_getElem? (i := 22) (by decide +kernel)), Or.inl rfl⟩
set_option maxRecDepth 100000 in
theorem z71 : wZ (.fieldLink RX11 55 "MotionFloorModel$Hall" "laid" "[Z") := ⟨wT5 (List.mem_of_getElem? (i := 80) (by decide +kernel)), Or.inl rfl⟩
set_option maxRecDepth 100000 in
theorem z72 : wZ (.selects RX11 yX11_hasDraft yX11_hasDraft) := ⟨List.mem_append_left _ (List.mem_of_getElem? (i := 5) (by decide +kernel)), Or.inl rfl⟩
set_option maxRecDepth 100000 in
theorem z73 : wZ (.instanceMethod yX11_hasDraft) := ⟨wT6 (List.mem_of_getElem? (i := 16) (by decide +kernel)), Or.inl rfl⟩
set_option maxRecDepth 100000 in
theorem z74 : wZ (.methodLink RX11 163 yX11_hasDraft) := ⟨wT6 (List.mem_of_getElem? (i := 14) (by decide +kernel)), Or.inl rfl⟩
set_option maxRecDepth 100000 in
theorem z75 : wZ (.code yX11_reasonOfWord cX11_reasonOfWord 6 (some .int)) := ⟨wT6 (List.mem_of_getElem? (i := 21) rfl), Or.inl rfl⟩
set_option maxRecDepth 100000 in
theorem z76 : wZ (.fieldLink RX11 68 "MotionFloorModel$Hall" "ballot" "[B") := ⟨wT5 (List.mem_of_getElem? (i := 87) (by decide +kernel)), Or.inl rfl⟩
set_option maxRecDepth 100000 in
theorem z77 : wZ (.code yX11_voters cX11_voters 4 (some .int)) := ⟨wT6 (List.mem_of_getElem? (i := 88) rfl), Or.inl rfl⟩
set_option maxRecDepth 100000 in
theorem z78 : wZ (.fieldLink RX11 81 "MotionFloorModel$Hall" "lying" "[I") := ⟨wT5 (List.mem_of_getElem? (i := 96) (by decide +kernel)), Or.inl rfl⟩
set_option maxRecDepth 100000 in
theorem z79 : wZ (.code yX11_free cX11_free 2 (some .int)) := ⟨wT6 (List.mem_of_getElem? (i := 48) rfl), Or.inl rfl⟩
set_option maxRecDepth 100000 in
theorem z80 : wZ (.code yX11_freePlaces cX11_freePlaces 3 (some .int)) := ⟨wT6 (List.mem_of_getElem? (i := 36) rfl), Or.inl rfl⟩
set_option maxRecDepth 100000 in
theorem z81 : wZ (.code yX11_wantsPlace cX11_wantsPlace 2 (some .boolean)) := ⟨wT6 (List.mem_of_getElem? (i := 40) rfl), Or.inl rfl⟩
set_option maxRecDepth 100000 in
theorem z82 : wZ (.code yX11_isPending cX11_isPending 3 (some .boolean)) := ⟨wT6 (List.mem_of_getElem? (i := 112) rfl), Or.inl rfl⟩
set_option maxRecDepth 100000 in
theorem z83 : wZ (.fieldLink RX11 19 "MotionFloorModel$Hall" "used" "[Z") := ⟨wT5 (List.mem_of_getElem? (i := 59) (by decide +kernel)), Or.inl rfl⟩
set_option maxRecDepth 100000 in
theorem z84 : wZ (.code yX11_goes cX11_goes 1 none) := ⟨wT6 (List.mem_of_getElem? (i := 92) rfl), Or.inl rfl⟩
set_option maxRecDepth 100000 in
theorem z85 : wZ (.code yX11_carries cX11_carries 4 (some .boolean)) := ⟨wT6 (List.mem_of_getElem? (i := 100) rfl), Or.inl rfl⟩
set_option maxRecDepth 100000 in
theorem z86 : wZ (.fieldLink RX11 87 "MotionFloorModel$Hall" "last" "[I") := ⟨wT5 (List.mem_of_getElem? (i := 104) (by decide +kernel)), Or.inl rfl⟩
set_option maxRecDepth 100000 in
theorem z87 : wZ (.fieldLink RX11 133 "MotionFloorModel$Hall" "lastWords" "I") := ⟨wT5 (List.mem_of_getElem? (i := 105) (by decide +kernel)), Or.inl rfl⟩
set_option maxRecDepth 100000 in
theorem z88 : wZ (.fieldLink RX11 65 "MotionFloorModel$Hall" "text" "[I") := ⟨wT5 (List.mem_of_getElem? (i := 85) (by decide +kernel)), Or.inl rfl⟩
set_option maxRecDepth 100000 in
theorem z89 : wZ (.code yX11_text cX11_text 4 (some .int)) := ⟨wT6 (List.mem_of_getElem? (i := 221) rfl), Or.inl rfl⟩
