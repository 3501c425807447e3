set_option maxRecDepth 100000 in
theorem z199 : wZ (.selects RX11 yX11_does yX11_does) := ⟨List.mem_append_left _ (List.mem_of_getElem? (i := 13) (by decide +kernel)), Or.inl rfl⟩
set_option maxRecDepth 100000 in
theorem z200 : wZ (.instanceMethod yX11_does) := ⟨wT6 (List.mem_of_getElem? (i := 55) (by decide +kernel)), Or.inl rfl⟩
set_option maxRecDepth 100000 in
theorem z201 : wZ (.methodLink RX11 200 yX11_does) := ⟨wT6 (List.mem_of_getElem? (i := 53) (by decide +kernel)), Or.inl rfl⟩
set_option maxRecDepth 100000 in
theorem z202 : wZ (.fieldLink RX11 127 "MotionFloorModel$Hall" "why" "I") := ⟨wT5 (List.mem_of_getElem? (i := 54) (by decide +kernel)), Or.inl rfl⟩
set_option maxRecDepth 100000 in
theorem z203 : wZ (.selects RX11 yX11_reason yX11_reason) := ⟨List.mem_append_left _ (List.mem_of_getElem? (i := 2) (by decide +kernel)), Or.inl rfl⟩
set_option maxRecDepth 100000 in
theorem z204 : wZ (.instanceMethod yX11_reason) := ⟨wT5 (List.mem_of_getElem? (i := 239) (by decide +kernel)), Or.inl rfl⟩
set_option maxRecDepth 100000 in
theorem z205 : wZ (.methodLink RX11 196 yX11_reason) := ⟨wT5 (List.mem_of_getElem? (i := 237) (by decide +kernel)), Or.inl rfl⟩
set_option maxRecDepth 100000 in
theorem z206 : wZ (.code yX11_act cX11_act 10 (some .int)) := ⟨wT5 (List.mem_of_getElem? (i := 236) rfl), Or.inl rfl⟩
set_option maxRecDepth 100000 in
theorem z207 : wZ (.code yX11_text cX11_text 4 (some .int)) := ⟨wT6 (List.mem_of_getElem? (i := 221) rfl), Or.inl rfl⟩
set_option maxRecDepth 100000 in
theorem z208 : wZ (.code yX11_begin cX11_begin 3 none) := ⟨wT5 (List.mem_of_getElem? (i := 199) rfl), Or.inl rfl⟩
set_option maxRecDepth 100000 in
theorem z209 : wZ (.laysFinal "MotionFloorModel" "MotionFloorModel" "hall" "LMotionFloorModel$Hall;") := ⟨wT5 (List.mem_of_getElem? (i := 207) (by decide +kernel)), Or.inl rfl⟩
set_option maxRecDepth 100000 in
theorem z210 : wZ (.laysFinal "MotionFloorModel" "MotionFloorModel" "spare" "LMotionFloorModel$Hall;") := ⟨wT5 (List.mem_of_getElem? (i := 209) (by decide +kernel)), Or.inl rfl⟩
set_option maxRecDepth 100000 in
theorem z211 : wZ (.laysFinal "MotionFloorModel" "MotionFloorModel" "imageSeats" "[I") := ⟨wT5 (List.mem_of_getElem? (i := 211) (by decide +kernel)), Or.inl rfl⟩
set_option maxRecDepth 100000 in
theorem z212 : wZ (.laysFinal "MotionFloorModel" "MotionFloorModel" "imageEntries" "[I") := ⟨wT5 (List.mem_of_getElem? (i := 213) (by decide +kernel)), Or.inl rfl⟩
set_option maxRecDepth 100000 in
theorem z213 : wZ (.laysFinal "MotionFloorModel" "MotionFloorModel" "images" "[I") := ⟨wT5 (List.mem_of_getElem? (i := 215) (by decide +kernel)), Or.inl rfl⟩
set_option maxRecDepth 100000 in
theorem z214 : wZ (.laysFinal "MotionFloorModel" "MotionFloorModel" "told" "[I") := ⟨wT5 (List.mem_of_getElem? (i := 217) (by decide +kernel)), Or.inl rfl⟩
set_option maxRecDepth 100000 in
theorem z215 : wZ (.lays "MotionFloorModel" "MotionFloorModel" "tolds" "I") := ⟨wT5 (List.mem_of_getElem? (i := 219) (by decide +kernel)), Or.inl rfl⟩
theorem zcX12 : GoodIn lw_tbl wsX120 := by
  show GoodIn lw_tbl [.laysFinal "MotionFloorModel" "MotionFloorModel" "hall" "LMotionFloorModel$Hall;", .laysFinal "MotionFloorModel" "MotionFloorModel" "spare" "LMotionFloorModel$Hall;", .laysFinal "MotionFloorModel" "MotionFloorModel" "imageSeats" "[I", .laysFinal "MotionFloorModel" "MotionFloorModel" "imageEntries" "[I", .laysFinal "MotionFloorModel" "MotionFloorModel" "images" "[I", .laysFinal "MotionFloorModel" "MotionFloorModel" "told" "[I", .lays "MotionFloorModel" "MotionFloorModel" "tolds" "I"]
  exact wGc z209 (wGc z210 (wGc z211 (wGc z212 (wGc z213 (wGc z214 (wGc z215 (wG0)))))))
set_option maxRecDepth 100000 in
theorem z216 : wZ (.selects RX11 yX11_begin yX11_begin) := ⟨wT5 (List.mem_of_getElem? (i := 198) (by decide +kernel)), Or.inl rfl⟩
set_option maxRecDepth 100000 in
theorem z217 : wZ (.instanceMethod yX11_begin) := ⟨wT5 (List.mem_of_getElem? (i := 197) (by decide +kernel)), Or.inl rfl⟩
set_option maxRecDepth 100000 in
theorem z218 : wZ (.methodLink RX12 36 yX11_begin) := ⟨wT5 (List.mem_of_getElem? (i := 196) (by decide +kernel)), Or.inl rfl⟩
set_option maxRecDepth 100000 in
theorem z219 : wZ (.fieldLink RX12 16 "MotionFloorModel" "hall" "LMotionFloorModel$Hall;") := ⟨wT5 (List.mem_of_getElem? (i := 200) (by decide +kernel)), Or.inl rfl⟩
set_option maxRecDepth 100000 in
theorem z220 : wZ (.code yX12_seats cX12_seats 2 (some .int)) := ⟨wT5 (List.mem_of_getElem? (i := 225) rfl), Or.inl rfl⟩
set_option maxRecDepth 100000 in
theorem z221 : wZ (.selects RX11 yX11_act yX11_act) := ⟨wT5 (List.mem_of_getElem? (i := 235) (by decide +kernel)), Or.inl rfl⟩
set_option maxRecDepth 100000 in
theorem z222 : wZ (.instanceMethod yX11_act) := ⟨wT5 (List.mem_of_getElem? (i := 234) (by decide +kernel)), Or.inl rfl⟩
set_option maxRecDepth 100000 in
theorem z223 : wZ (.methodLink RX12 40 yX11_act) := ⟨wT5 (List.mem_of_getElem? (i := 233) (by decide +kernel)), Or.inl rfl⟩
set_option maxRecDepth 100000 in
theorem z224 : wZ (.code yX12_there cX12_there 2 (some .int)) := ⟨wT5 (List.mem_of_getElem? (i := 232) rfl), Or.inl rfl⟩
set_option maxRecDepth 100000 in
theorem z225 : wZ (.code yX12_gone cX12_gone 2 (some .int)) := ⟨wT6 (List.mem_of_getElem? (i := 119) rfl), Or.inl rfl⟩
set_option maxRecDepth 100000 in
theorem z226 : wZ (.code yX12_quorum cX12_quorum 2 (some .int)) := ⟨wT6 (List.mem_of_getElem? (i := 123) rfl), Or.inl rfl⟩
set_option maxRecDepth 100000 in
theorem z227 : wZ (.code yX12_chair cX12_chair 2 (some .int)) := ⟨wT6 (List.mem_of_getElem? (i := 127) rfl), Or.inl rfl⟩
set_option maxRecDepth 100000 in
theorem z228 : wZ (.code yX12_majority cX12_majority 3 (some .int)) := ⟨wT6 (List.mem_of_getElem? (i := 131) rfl), Or.inl rfl⟩
set_option maxRecDepth 100000 in
theorem z229 : wZ (.code yX12_limit cX12_limit 2 (some .int)) := ⟨wT6 (List.mem_of_getElem? (i := 135) rfl), Or.inl rfl⟩
set_option maxRecDepth 100000 in
theorem z230 : wZ (.code yX12_floor cX12_floor 2 (some .int)) := ⟨wT6 (List.mem_of_getElem? (i := 139) rfl), Or.inl rfl⟩
set_option maxRecDepth 100000 in
theorem z231 : wZ (.code yX12_cede cX12_cede 1 (some .int)) := ⟨wT6 (List.mem_of_getElem? (i := 143) rfl), Or.inl rfl⟩
set_option maxRecDepth 100000 in
theorem z232 : wZ (.code yX12_debate cX12_debate 2 (some .int)) := ⟨wT6 (List.mem_of_getElem? (i := 147) rfl), Or.inl rfl⟩
set_option maxRecDepth 100000 in
theorem z233 : wZ (.code yX12_draft cX12_draft 2 (some .int)) := ⟨wT6 (List.mem_of_getElem? (i := 151) rfl), Or.inl rfl⟩
set_option maxRecDepth 100000 in
theorem z234 : wZ (.code yX12_span cX12_span 3 (some .int)) := ⟨wT6 (List.mem_of_getElem? (i := 155) rfl), Or.inl rfl⟩
set_option maxRecDepth 100000 in
theorem z235 : wZ (.code yX12_word cX12_word 5 (some .int)) := ⟨wT6 (List.mem_of_getElem? (i := 159) rfl), Or.inl rfl⟩
set_option maxRecDepth 100000 in
theorem z236 : wZ (.code yX12_lay cX12_lay 2 (some .int)) := ⟨wT6 (List.mem_of_getElem? (i := 163) rfl), Or.inl rfl⟩
set_option maxRecDepth 100000 in
theorem z237 : wZ (.code yX12_take cX12_take 2 (some .int)) := ⟨wT6 (List.mem_of_getElem? (i := 167) rfl), Or.inl rfl⟩
set_option maxRecDepth 100000 in
theorem z238 : wZ (.code yX12_move cX12_move 2 (some .int)) := ⟨wT6 (List.mem_of_getElem? (i := 171) rfl), Or.inl rfl⟩
set_option maxRecDepth 100000 in
theorem z239 : wZ (.code yX12_second cX12_second 2 (some .int)) := ⟨wT6 (List.mem_of_getElem? (i := 175) rfl), Or.inl rfl⟩
set_option maxRecDepth 100000 in
theorem z240 : wZ (.code yX12_vote cX12_vote 3 (some .int)) := ⟨wT6 (List.mem_of_getElem? (i := 179) rfl), Or.inl rfl⟩
set_option maxRecDepth 100000 in
theorem z241 : wZ (.code yX12_withdraw cX12_withdraw 2 (some .int)) := ⟨wT6 (List.mem_of_getElem? (i := 183) rfl), Or.inl rfl⟩
set_option maxRecDepth 100000 in
theorem z242 : wZ (.code yX12_rule cX12_rule 1 (some .int)) := ⟨wT6 (List.mem_of_getElem? (i := 187) rfl), Or.inl rfl⟩
set_option maxRecDepth 100000 in
theorem z243 : wZ (.code yX12_appeal cX12_appeal 2 (some .int)) := ⟨wT6 (List.mem_of_getElem? (i := 191) rfl), Or.inl rfl⟩
set_option maxRecDepth 100000 in
theorem z244 : wZ (.code yX12_told cX12_told 1 (some .int)) := ⟨wT6 (List.mem_of_getElem? (i := 195) rfl), Or.inl rfl⟩
set_option maxRecDepth 100000 in
theorem z245 : wZ (.code yX12_adjourn cX12_adjourn 1 (some .int)) := ⟨wT6 (List.mem_of_getElem? (i := 199) rfl), Or.inl rfl⟩
set_option maxRecDepth 100000 in
theorem z246 : wZ (.fieldLink RX12 48 "MotionFloorModel$Hall" "entries" "I") := ⟨wT5 (List.mem_of_getElem? (i := 49) (by decide +kernel)), Or.inl rfl⟩
set_option maxRecDepth 100000 in
theorem z247 : wZ (.fieldLink RX12 52 "MotionFloorModel$Hall" "why" "I") := ⟨wT5 (List.mem_of_getElem? (i := 55) (by decide +kernel)), Or.inl rfl⟩
set_option maxRecDepth 100000 in
theorem z248 : wZ (.methodLink RX12 44 yX11_reasonOfMove) := ⟨wT6 (List.mem_of_getElem? (i := 204) (by decide +kernel)), Or.inl rfl⟩
set_option maxRecDepth 100000 in
theorem z249 : wZ (.code yX12_order cX12_order 3 (some .int)) := ⟨wT6 (List.mem_of_getElem? (i := 203) rfl), Or.inl rfl⟩
set_option maxRecDepth 100000 in
theorem z250 : wZ (.code yX12_why cX12_why 1 (some .int)) := ⟨wT6 (List.mem_of_getElem? (i := 208) rfl), Or.inl rfl⟩
set_option maxRecDepth 100000 in
theorem z251 : wZ (.methodLink RX12 89 yX11_voters) := ⟨wT6 (List.mem_of_getElem? (i := 213) (by decide +kernel)), Or.inl rfl⟩
set_option maxRecDepth 100000 in
theorem z252 : wZ (.fieldLink RX12 85 "MotionFloorModel$Hall" "closed" "[Z") := ⟨wT5 (List.mem_of_getElem? (i := 79) (by decide +kernel)), Or.inl rfl⟩
set_option maxRecDepth 100000 in
theorem z253 : wZ (.fieldLink RX12 82 "MotionFloorModel$Hall" "speeches" "[I") := ⟨wT5 (List.mem_of_getElem? (i := 69) (by decide +kernel)), Or.inl rfl⟩
set_option maxRecDepth 100000 in
theorem z254 : wZ (.fieldLink RX12 79 "MotionFloorModel$Hall" "floors" "[I") := ⟨wT5 (List.mem_of_getElem? (i := 67) (by decide +kernel)), Or.inl rfl⟩
set_option maxRecDepth 100000 in
theorem z255 : wZ (.fieldLink RX12 76 "MotionFloorModel$Hall" "to" "[I") := ⟨wT5 (List.mem_of_getElem? (i := 75) (by decide +kernel)), Or.inl rfl⟩
set_option maxRecDepth 100000 in
theorem z256 : wZ (.fieldLink RX12 73 "MotionFloorModel$Hall" "from" "[I") := ⟨wT5 (List.mem_of_getElem? (i := 73) (by decide +kernel)), Or.inl rfl⟩
set_option maxRecDepth 100000 in
theorem z257 : wZ (.fieldLink RX12 70 "MotionFloorModel$Hall" "words" "[I") := ⟨wT5 (List.mem_of_getElem? (i := 71) (by decide +kernel)), Or.inl rfl⟩
set_option maxRecDepth 100000 in
theorem z258 : wZ (.fieldLink RX12 67 "MotionFloorModel$Hall" "seconder" "[I") := ⟨wT5 (List.mem_of_getElem? (i := 65) (by decide +kernel)), Or.inl rfl⟩
set_option maxRecDepth 100000 in
theorem z259 : wZ (.fieldLink RX12 64 "MotionFloorModel$Hall" "mover" "[I") := ⟨wT5 (List.mem_of_getElem? (i := 63) (by decide +kernel)), Or.inl rfl⟩
set_option maxRecDepth 100000 in
theorem z260 : wZ (.fieldLink RX12 61 "MotionFloorModel$Hall" "kind" "[I") := ⟨wT5 (List.mem_of_getElem? (i := 61) (by decide +kernel)), Or.inl rfl⟩
set_option maxRecDepth 100000 in
theorem z261 : wZ (.fieldLink RX12 58 "MotionFloorModel$Hall" "row" "[I") := ⟨wT5 (List.mem_of_getElem? (i := 91) (by decide +kernel)), Or.inl rfl⟩
set_option maxRecDepth 100000 in
theorem z262 : wZ (.fieldLink RX12 55 "MotionFloorModel$Hall" "pending" "I") := ⟨wT5 (List.mem_of_getElem? (i := 47) (by decide +kernel)), Or.inl rfl⟩
set_option maxRecDepth 100000 in
theorem z263 : wZ (.code yX12_pending cX12_pending 4 (some .int)) := ⟨wT6 (List.mem_of_getElem? (i := 212) rfl), Or.inl rfl⟩
set_option maxRecDepth 100000 in
theorem z264 : wZ (.selects RX11 yX11_text yX11_text) := ⟨wT6 (List.mem_of_getElem? (i := 220) (by decide +kernel)), Or.inl rfl⟩
set_option maxRecDepth 100000 in
theorem z265 : wZ (.instanceMethod yX11_text) := ⟨wT6 (List.mem_of_getElem? (i := 219) (by decide +kernel)), Or.inl rfl⟩
set_option maxRecDepth 100000 in
theorem z266 : wZ (.methodLink RX12 92 yX11_text) := ⟨wT6 (List.mem_of_getElem? (i := 218) (by decide +kernel)), Or.inl rfl⟩
set_option maxRecDepth 100000 in
theorem z267 : wZ (.code yX12_text cX12_text 3 (some .int)) := ⟨wT6 (List.mem_of_getElem? (i := 217) rfl), Or.inl rfl⟩
set_option maxRecDepth 100000 in
theorem z268 : wZ (.methodLink RX12 103 yX11_top) := ⟨wT6 (List.mem_of_getElem? (i := 226) (by decide +kernel)), Or.inl rfl⟩
set_option maxRecDepth 100000 in
theorem z269 : wZ (.fieldLink RX12 99 "MotionFloorModel$Hall" "ballot" "[B") := ⟨wT5 (List.mem_of_getElem? (i := 88) (by decide +kernel)), Or.inl rfl⟩
set_option maxRecDepth 100000 in
theorem z270 : wZ (.fieldLink RX12 96 "MotionFloorModel$Hall" "seats" "I") := ⟨wT5 (List.mem_of_getElem? (i := 35) (by decide +kernel)), Or.inl rfl⟩
set_option maxRecDepth 100000 in
theorem z271 : wZ (.code yX12_ballot cX12_ballot 3 (some .int)) := ⟨wT6 (List.mem_of_getElem? (i := 225) rfl), Or.inl rfl⟩
set_option maxRecDepth 100000 in
theorem z272 : wZ (.fieldLink RX12 119 "MotionFloorModel$Hall" "outside" "[Z") := ⟨wT5 (List.mem_of_getElem? (i := 82) (by decide +kernel)), Or.inl rfl⟩
set_option maxRecDepth 100000 in
theorem z273 : wZ (.fieldLink RX12 116 "MotionFloorModel$Hall" "letter" "[Z") := ⟨wT5 (List.mem_of_getElem? (i := 84) (by decide +kernel)), Or.inl rfl⟩
set_option maxRecDepth 100000 in
theorem z274 : wZ (.fieldLink RX12 113 "MotionFloorModel$Hall" "tabled" "[Z") := ⟨wT5 (List.mem_of_getElem? (i := 103) (by decide +kernel)), Or.inl rfl⟩
set_option maxRecDepth 100000 in
theorem z275 : wZ (.fieldLink RX12 110 "MotionFloorModel$Hall" "desk" "[I") := ⟨wT5 (List.mem_of_getElem? (i := 95) (by decide +kernel)), Or.inl rfl⟩
set_option maxRecDepth 100000 in
theorem z276 : wZ (.fieldLink RX12 107 "MotionFloorModel$Hall" "lying" "[I") := ⟨wT5 (List.mem_of_getElem? (i := 97) (by decide +kernel)), Or.inl rfl⟩
set_option maxRecDepth 100000 in
theorem z277 : wZ (.code yX12_desk cX12_desk 6 (some .int)) := ⟨wT6 (List.mem_of_getElem? (i := 230) rfl), Or.inl rfl⟩
set_option maxRecDepth 100000 in
theorem z278 : wZ (.fieldLink RX12 122 "MotionFloorModel$Hall" "text" "[I") := ⟨wT5 (List.mem_of_getElem? (i := 86) (by decide +kernel)), Or.inl rfl⟩
set_option maxRecDepth 100000 in
theorem z279 : wZ (.code yX12_lying cX12_lying 4 (some .int)) := ⟨wT6 (List.mem_of_getElem? (i := 234) rfl), Or.inl rfl⟩
set_option maxRecDepth 100000 in
theorem z280 : wZ (.fieldLink RX12 127 "MotionFloorModel$Hall" "result" "[I") := ⟨wT5 (List.mem_of_getElem? (i := 110) (by decide +kernel)), Or.inl rfl⟩
set_option maxRecDepth 100000 in
theorem z281 : wZ (.fieldLink RX12 124 "MotionFloorModel$Hall" "results" "I") := ⟨wT5 (List.mem_of_getElem? (i := 51) (by decide +kernel)), Or.inl rfl⟩
set_option maxRecDepth 100000 in
theorem z282 : wZ (.code yX12_result cX12_result 3 (some .int)) := ⟨wT6 (List.mem_of_getElem? (i := 238) rfl), Or.inl rfl⟩
set_option maxRecDepth 100000 in
theorem z283 : wZ (.fieldLink RX12 161 "MotionFloorModel" "tolds" "I") := ⟨wT5 (List.mem_of_getElem? (i := 206) (by decide +kernel)), Or.inl rfl⟩
set_option maxRecDepth 100000 in
theorem z284 : wZ (.fieldLink RX12 158 "MotionFloorModel$Hall" "adopted" "I") := ⟨wT5 (List.mem_of_getElem? (i := 53) (by decide +kernel)), Or.inl rfl⟩
set_option maxRecDepth 100000 in
theorem z285 : wZ (.fieldLink RX12 155 "MotionFloorModel$Hall" "lastWords" "I") := ⟨wT5 (List.mem_of_getElem? (i := 106) (by decide +kernel)), Or.inl rfl⟩
set_option maxRecDepth 100000 in
theorem z286 : wZ (.fieldLink RX12 152 "MotionFloorModel$Hall" "draft" "[I") := ⟨wT5 (List.mem_of_getElem? (i := 93) (by decide +kernel)), Or.inl rfl⟩
set_option maxRecDepth 100000 in
theorem z287 : wZ (.fieldLink RX12 148 "MotionFloorModel$Hall" "draftTabled" "Z") := ⟨wT5 (List.mem_of_getElem? (i := 101) (by decide +kernel)), Or.inl rfl⟩
set_option maxRecDepth 100000 in
theorem z288 : wZ (.fieldLink RX12 145 "MotionFloorModel$Hall" "drafted" "I") := ⟨wT5 (List.mem_of_getElem? (i := 99) (by decide +kernel)), Or.inl rfl⟩
set_option maxRecDepth 100000 in
theorem z289 : wZ (.fieldLink RX12 142 "MotionFloorModel$Hall" "floor" "I") := ⟨wT5 (List.mem_of_getElem? (i := 45) (by decide +kernel)), Or.inl rfl⟩
set_option maxRecDepth 100000 in
theorem z290 : wZ (.fieldLink RX12 139 "MotionFloorModel$Hall" "limit" "I") := ⟨wT5 (List.mem_of_getElem? (i := 43) (by decide +kernel)), Or.inl rfl⟩
set_option maxRecDepth 100000 in
theorem z291 : wZ (.fieldLink RX12 136 "MotionFloorModel$Hall" "quorum" "I") := ⟨wT5 (List.mem_of_getElem? (i := 41) (by decide +kernel)), Or.inl rfl⟩
set_option maxRecDepth 100000 in
theorem z292 : wZ (.fieldLink RX12 133 "MotionFloorModel$Hall" "chair" "I") := ⟨wT5 (List.mem_of_getElem? (i := 39) (by decide +kernel)), Or.inl rfl⟩
set_option maxRecDepth 100000 in
theorem z293 : wZ (.fieldLink RX12 130 "MotionFloorModel$Hall" "there" "I") := ⟨wT5 (List.mem_of_getElem? (i := 37) (by decide +kernel)), Or.inl rfl⟩
set_option maxRecDepth 100000 in
theorem z294 : wZ (.code yX12_count cX12_count 2 (some .int)) := ⟨wT7 (List.mem_of_getElem? (i := 2) rfl), Or.inl rfl⟩
set_option maxRecDepth 100000 in
theorem z295 : wZ (.fieldLink RX12 164 "MotionFloorModel$Hall" "isThere" "[Z") := ⟨wT5 (List.mem_of_getElem? (i := 57) (by decide +kernel)), Or.inl rfl⟩
set_option maxRecDepth 100000 in
theorem z296 : wZ (.code yX12_seat cX12_seat 2 (some .int)) := ⟨wT7 (List.mem_of_getElem? (i := 6) rfl), Or.inl rfl⟩
set_option maxRecDepth 100000 in
theorem z297 : wZ (.fieldLink RX12 167 "MotionFloorModel$Hall" "minutes" "[I") := ⟨wT5 (List.mem_of_getElem? (i := 108) (by decide +kernel)), Or.inl rfl⟩
set_option maxRecDepth 100000 in
theorem z298 : wZ (.code yX12_journal cX12_journal 3 (some .int)) := ⟨wT7 (List.mem_of_getElem? (i := 10) rfl), Or.inl rfl⟩
set_option maxRecDepth 100000 in
theorem z299 : wZ (.fieldLink RX12 20 "MotionFloorModel" "spare" "LMotionFloorModel$Hall;") := ⟨wT5 (List.mem_of_getElem? (i := 201) (by decide +kernel)), Or.inl rfl⟩
set_option maxRecDepth 100000 in
theorem z300 : wZ (.code yX12_again cX12_again 4 (some .int)) := ⟨wT7 (List.mem_of_getElem? (i := 23) rfl), Or.inl rfl⟩
set_option maxRecDepth 100000 in
theorem z301 : wZ (.fieldLink RX12 33 "MotionFloorModel" "told" "[I") := ⟨wT5 (List.mem_of_getElem? (i := 205) (by decide +kernel)), Or.inl rfl⟩
set_option maxRecDepth 100000 in
theorem z302 : wZ (.code yX12_tell cX12_tell 8 (some .int)) := ⟨wT7 (List.mem_of_getElem? (i := 27) rfl), Or.inl rfl⟩
set_option maxRecDepth 100000 in
theorem z303 : wZ (.methodLink RX12 174 yX12_numbers) := ⟨wT7 (List.mem_of_getElem? (i := 32) (by decide +kernel)), Or.inl rfl⟩
set_option maxRecDepth 100000 in
theorem z304 : wZ (.code yX12_check cX12_check 5 (some .int)) := ⟨wT7 (List.mem_of_getElem? (i := 31) rfl), Or.inl rfl⟩
set_option maxRecDepth 100000 in
theorem z305 : wZ (.code yX12_strike cX12_strike 2 (some .int)) := ⟨wT7 (List.mem_of_getElem? (i := 36) rfl), Or.inl rfl⟩
set_option maxRecDepth 100000 in
theorem z306 : wZ (.fieldLink RX12 30 "MotionFloorModel" "images" "[I") := ⟨wT5 (List.mem_of_getElem? (i := 204) (by decide +kernel)), Or.inl rfl⟩
set_option maxRecDepth 100000 in
theorem z307 : wZ (.fieldLink RX12 27 "MotionFloorModel" "imageEntries" "[I") := ⟨wT5 (List.mem_of_getElem? (i := 203) (by decide +kernel)), Or.inl rfl⟩
set_option maxRecDepth 100000 in
theorem z308 : wZ (.fieldLink RX12 23 "MotionFloorModel" "imageSeats" "[I") := ⟨wT5 (List.mem_of_getElem? (i := 202) (by decide +kernel)), Or.inl rfl⟩
set_option maxRecDepth 100000 in
theorem z309 : wZ (.code yX12_image cX12_image 3 (some .int)) := ⟨wT7 (List.mem_of_getElem? (i := 40) rfl), Or.inl rfl⟩
set_option maxRecDepth 100000 in
theorem z310 : wZ (.code yX12_back cX12_back 5 (some .int)) := ⟨wT7 (List.mem_of_getElem? (i := 44) rfl), Or.inl rfl⟩
