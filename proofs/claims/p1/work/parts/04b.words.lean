set_option maxRecDepth 100000 in
theorem z192 : wZ (.fieldLink RX11 15 "MotionFloorModel$Hall" "majority" "[I") := ⟨wT5 (List.mem_of_getElem? (i := 58) (by decide +kernel)), Or.inl rfl⟩
set_option maxRecDepth 100000 in
theorem z193 : wZ (.fieldLink RX11 9 "MotionFloorModel$Hall" "isThere" "[Z") := ⟨wT5 (List.mem_of_getElem? (i := 56) (by decide +kernel)), Or.inl rfl⟩
set_option maxRecDepth 100000 in
theorem z194 : wZ (.methodLink RX11 3 objectInit) := ⟨wT5 (List.mem_of_getElem? (i := 32) (by decide +kernel)), Or.inl rfl⟩
set_option maxRecDepth 100000 in
theorem z195 : wZ (.code yX11_init cX11_init 1 none) := ⟨wT5 (List.mem_of_getElem? (i := 31) rfl), Or.inl rfl⟩
set_option maxRecDepth 100000 in
theorem z196 : wZ (.fieldLink RX11 133 "MotionFloorModel$Hall" "lastWords" "I") := ⟨wT5 (List.mem_of_getElem? (i := 105) (by decide +kernel)), Or.inl rfl⟩
set_option maxRecDepth 100000 in
theorem z197 : wZ (.fieldLink RX11 130 "MotionFloorModel$Hall" "drafted" "I") := ⟨wT5 (List.mem_of_getElem? (i := 98) (by decide +kernel)), Or.inl rfl⟩
set_option maxRecDepth 100000 in
theorem z198 : wZ (.fieldLink RX11 127 "MotionFloorModel$Hall" "why" "I") := ⟨wT5 (List.mem_of_getElem? (i := 54) (by decide +kernel)), Or.inl rfl⟩
set_option maxRecDepth 100000 in
theorem z199 : wZ (.fieldLink RX11 124 "MotionFloorModel$Hall" "adopted" "I") := ⟨wT5 (List.mem_of_getElem? (i := 52) (by decide +kernel)), Or.inl rfl⟩
set_option maxRecDepth 100000 in
theorem z200 : wZ (.fieldLink RX11 121 "MotionFloorModel$Hall" "results" "I") := ⟨wT5 (List.mem_of_getElem? (i := 50) (by decide +kernel)), Or.inl rfl⟩
set_option maxRecDepth 100000 in
theorem z201 : wZ (.fieldLink RX11 118 "MotionFloorModel$Hall" "entries" "I") := ⟨wT5 (List.mem_of_getElem? (i := 48) (by decide +kernel)), Or.inl rfl⟩
set_option maxRecDepth 100000 in
theorem z202 : wZ (.fieldLink RX11 115 "MotionFloorModel$Hall" "pending" "I") := ⟨wT5 (List.mem_of_getElem? (i := 46) (by decide +kernel)), Or.inl rfl⟩
set_option maxRecDepth 100000 in
theorem z203 : wZ (.fieldLink RX11 112 "MotionFloorModel$Hall" "floor" "I") := ⟨wT5 (List.mem_of_getElem? (i := 44) (by decide +kernel)), Or.inl rfl⟩
set_option maxRecDepth 100000 in
theorem z204 : wZ (.fieldLink RX11 109 "MotionFloorModel$Hall" "limit" "I") := ⟨wT5 (List.mem_of_getElem? (i := 42) (by decide +kernel)), Or.inl rfl⟩
set_option maxRecDepth 100000 in
theorem z205 : wZ (.fieldLink RX11 106 "MotionFloorModel$Hall" "quorum" "I") := ⟨wT5 (List.mem_of_getElem? (i := 40) (by decide +kernel)), Or.inl rfl⟩
set_option maxRecDepth 100000 in
theorem z206 : wZ (.fieldLink RX11 103 "MotionFloorModel$Hall" "chair" "I") := ⟨wT5 (List.mem_of_getElem? (i := 38) (by decide +kernel)), Or.inl rfl⟩
set_option maxRecDepth 100000 in
theorem z207 : wZ (.fieldLink RX11 100 "MotionFloorModel$Hall" "there" "I") := ⟨wT5 (List.mem_of_getElem? (i := 36) (by decide +kernel)), Or.inl rfl⟩
set_option maxRecDepth 100000 in
theorem z208 : wZ (.fieldLink RX11 96 "MotionFloorModel$Hall" "seats" "I") := ⟨wT5 (List.mem_of_getElem? (i := 34) (by decide +kernel)), Or.inl rfl⟩
set_option maxRecDepth 100000 in
theorem z209 : wZ (.code yX11_begin cX11_begin 3 none) := ⟨wT5 (List.mem_of_getElem? (i := 199) rfl), Or.inl rfl⟩
set_option maxRecDepth 100000 in
theorem z210 : wZ (.laysFinal "MotionFloorModel" "MotionFloorModel" "hall" "LMotionFloorModel$Hall;") := ⟨wT5 (List.mem_of_getElem? (i := 207) (by decide +kernel)), Or.inl rfl⟩
set_option maxRecDepth 100000 in
theorem z211 : wZ (.laysFinal "MotionFloorModel" "MotionFloorModel" "spare" "LMotionFloorModel$Hall;") := ⟨wT5 (List.mem_of_getElem? (i := 209) (by decide +kernel)), Or.inl rfl⟩
set_option maxRecDepth 100000 in
theorem z212 : wZ (.laysFinal "MotionFloorModel" "MotionFloorModel" "imageSeats" "[I") := ⟨wT5 (List.mem_of_getElem? (i := 211) (by decide +kernel)), Or.inl rfl⟩
set_option maxRecDepth 100000 in
theorem z213 : wZ (.laysFinal "MotionFloorModel" "MotionFloorModel" "imageEntries" "[I") := ⟨wT5 (List.mem_of_getElem? (i := 213) (by decide +kernel)), Or.inl rfl⟩
set_option maxRecDepth 100000 in
theorem z214 : wZ (.laysFinal "MotionFloorModel" "MotionFloorModel" "images" "[I") := ⟨wT5 (List.mem_of_getElem? (i := 215) (by decide +kernel)), Or.inl rfl⟩
set_option maxRecDepth 100000 in
theorem z215 : wZ (.laysFinal "MotionFloorModel" "MotionFloorModel" "told" "[I") := ⟨wT5 (List.mem_of_getElem? (i := 217) (by decide +kernel)), Or.inl rfl⟩
set_option maxRecDepth 100000 in
theorem z216 : wZ (.lays "MotionFloorModel" "MotionFloorModel" "tolds" "I") := ⟨wT5 (List.mem_of_getElem? (i := 219) (by decide +kernel)), Or.inl rfl⟩
theorem zcX12 : GoodIn lw_tbl wsX120 := by
  show GoodIn lw_tbl [.laysFinal "MotionFloorModel" "MotionFloorModel" "hall" "LMotionFloorModel$Hall;", .laysFinal "MotionFloorModel" "MotionFloorModel" "spare" "LMotionFloorModel$Hall;", .laysFinal "MotionFloorModel" "MotionFloorModel" "imageSeats" "[I", .laysFinal "MotionFloorModel" "MotionFloorModel" "imageEntries" "[I", .laysFinal "MotionFloorModel" "MotionFloorModel" "images" "[I", .laysFinal "MotionFloorModel" "MotionFloorModel" "told" "[I", .lays "MotionFloorModel" "MotionFloorModel" "tolds" "I"]
  exact wGc z210 (wGc z211 (wGc z212 (wGc z213 (wGc z214 (wGc z215 (wGc z216 (wG0)))))))
set_option maxRecDepth 100000 in
theorem z217 : wZ (.selects RX11 yX11_begin yX11_begin) := ⟨wT5 (List.mem_of_getElem? (i := 198) (by decide +kernel)), Or.inl rfl⟩
set_option maxRecDepth 100000 in
theorem z218 : wZ (.instanceMethod yX11_begin) := ⟨wT5 (List.mem_of_getElem? (i := 197) (by decide +kernel)), Or.inl rfl⟩
set_option maxRecDepth 100000 in
theorem z219 : wZ (.methodLink RX12 36 yX11_begin) := ⟨wT5 (List.mem_of_getElem? (i := 196) (by decide +kernel)), Or.inl rfl⟩
set_option maxRecDepth 100000 in
theorem z220 : wZ (.fieldLink RX12 33 "MotionFloorModel" "told" "[I") := ⟨wT5 (List.mem_of_getElem? (i := 205) (by decide +kernel)), Or.inl rfl⟩
set_option maxRecDepth 100000 in
theorem z221 : wZ (.fieldLink RX12 30 "MotionFloorModel" "images" "[I") := ⟨wT5 (List.mem_of_getElem? (i := 204) (by decide +kernel)), Or.inl rfl⟩
set_option maxRecDepth 100000 in
theorem z222 : wZ (.fieldLink RX12 27 "MotionFloorModel" "imageEntries" "[I") := ⟨wT5 (List.mem_of_getElem? (i := 203) (by decide +kernel)), Or.inl rfl⟩
set_option maxRecDepth 100000 in
theorem z223 : wZ (.fieldLink RX12 23 "MotionFloorModel" "imageSeats" "[I") := ⟨wT5 (List.mem_of_getElem? (i := 202) (by decide +kernel)), Or.inl rfl⟩
set_option maxRecDepth 100000 in
theorem z224 : wZ (.fieldLink RX12 20 "MotionFloorModel" "spare" "LMotionFloorModel$Hall;") := ⟨wT5 (List.mem_of_getElem? (i := 201) (by decide +kernel)), Or.inl rfl⟩
set_option maxRecDepth 100000 in
theorem z225 : wZ (.fieldLink RX12 16 "MotionFloorModel" "hall" "LMotionFloorModel$Hall;") := ⟨wT5 (List.mem_of_getElem? (i := 200) (by decide +kernel)), Or.inl rfl⟩
set_option maxRecDepth 100000 in
theorem z226 : wZ (.instanceMethod yX11_init) := ⟨wT5 (List.mem_of_getElem? (i := 30) (by decide +kernel)), Or.inl rfl⟩
set_option maxRecDepth 100000 in
theorem z227 : wZ (.initialized RX11) := ⟨wT1 (List.mem_of_getElem? (i := 11) (by decide +kernel)), Or.inl rfl⟩
set_option maxRecDepth 100000 in
theorem z228 : wZ (.instantiable RX11 42) := ⟨wT5 (List.mem_of_getElem? (i := 28) (by decide +kernel)), Or.inl rfl⟩
set_option maxRecDepth 100000 in
theorem z229 : wZ (.classLink RX12 13 RX11) := ⟨wT5 (List.mem_of_getElem? (i := 27) (by decide +kernel)), Or.inl rfl⟩
set_option maxRecDepth 100000 in
theorem z230 : wZ (.methodLink RX12 7 objectInit) := ⟨wT5 (List.mem_of_getElem? (i := 26) (by decide +kernel)), Or.inl rfl⟩
set_option maxRecDepth 100000 in
theorem z231 : wZ (.code yX12_init cX12_init 1 none) := ⟨wT5 (List.mem_of_getElem? (i := 25) rfl), Or.inl rfl⟩
set_option maxRecDepth 100000 in
theorem z232 : wZ (.lays "MotionFloor$Motion" "MotionFloor$Motion" "name" "I") := ⟨wT3 (List.mem_of_getElem? (i := 62) (by decide +kernel)), Or.inl rfl⟩
set_option maxRecDepth 100000 in
theorem z233 : wZ (.lays "MotionFloor$Motion" "MotionFloor$Motion" "subject" "I") := ⟨wT3 (List.mem_of_getElem? (i := 64) (by decide +kernel)), Or.inl rfl⟩
set_option maxRecDepth 100000 in
theorem z234 : wZ (.lays "MotionFloor$Motion" "MotionFloor$Motion" "kind" "I") := ⟨wT3 (List.mem_of_getElem? (i := 66) (by decide +kernel)), Or.inl rfl⟩
set_option maxRecDepth 100000 in
theorem z235 : wZ (.lays "MotionFloor$Motion" "MotionFloor$Motion" "mover" "I") := ⟨wT3 (List.mem_of_getElem? (i := 68) (by decide +kernel)), Or.inl rfl⟩
set_option maxRecDepth 100000 in
theorem z236 : wZ (.lays "MotionFloor$Motion" "MotionFloor$Motion" "seconder" "I") := ⟨wT3 (List.mem_of_getElem? (i := 70) (by decide +kernel)), Or.inl rfl⟩
set_option maxRecDepth 100000 in
theorem z237 : wZ (.lays "MotionFloor$Motion" "MotionFloor$Motion" "floors" "I") := ⟨wT3 (List.mem_of_getElem? (i := 72) (by decide +kernel)), Or.inl rfl⟩
set_option maxRecDepth 100000 in
theorem z238 : wZ (.lays "MotionFloor$Motion" "MotionFloor$Motion" "speeches" "I") := ⟨wT3 (List.mem_of_getElem? (i := 74) (by decide +kernel)), Or.inl rfl⟩
set_option maxRecDepth 100000 in
theorem z239 : wZ (.lays "MotionFloor$Motion" "MotionFloor$Motion" "closed" "Z") := ⟨wT3 (List.mem_of_getElem? (i := 76) (by decide +kernel)), Or.inl rfl⟩
set_option maxRecDepth 100000 in
theorem z240 : wZ (.lays "MotionFloor$Motion" "MotionFloor$Motion" "from" "I") := ⟨wT3 (List.mem_of_getElem? (i := 78) (by decide +kernel)), Or.inl rfl⟩
set_option maxRecDepth 100000 in
theorem z241 : wZ (.lays "MotionFloor$Motion" "MotionFloor$Motion" "to" "I") := ⟨wT3 (List.mem_of_getElem? (i := 80) (by decide +kernel)), Or.inl rfl⟩
set_option maxRecDepth 100000 in
theorem z242 : wZ (.lays "MotionFloor$Motion" "MotionFloor$Motion" "laid" "Z") := ⟨wT3 (List.mem_of_getElem? (i := 82) (by decide +kernel)), Or.inl rfl⟩
set_option maxRecDepth 100000 in
theorem z243 : wZ (.lays "MotionFloor$Motion" "MotionFloor$Motion" "outOfOrder" "Z") := ⟨wT3 (List.mem_of_getElem? (i := 84) (by decide +kernel)), Or.inl rfl⟩
set_option maxRecDepth 100000 in
theorem z244 : wZ (.laysFinal "MotionFloor$Motion" "MotionFloor$Motion" "text" "LMotionFloor$Text;") := ⟨wT3 (List.mem_of_getElem? (i := 86) (by decide +kernel)), Or.inl rfl⟩
set_option maxRecDepth 100000 in
theorem z245 : wZ (.laysFinal "MotionFloor$Motion" "MotionFloor$Motion" "votes" "[B") := ⟨wT3 (List.mem_of_getElem? (i := 88) (by decide +kernel)), Or.inl rfl⟩
set_option maxRecDepth 100000 in
theorem z246 : wZ (.lays "MotionFloor$Motion" "MotionFloor$Motion" "voters" "I") := ⟨wT3 (List.mem_of_getElem? (i := 90) (by decide +kernel)), Or.inl rfl⟩
set_option maxRecDepth 100000 in
theorem z247 : wZ (.lays "MotionFloor$Motion" "MotionFloor$Motion" "nextSpare" "LMotionFloor$Motion;") := ⟨wT3 (List.mem_of_getElem? (i := 92) (by decide +kernel)), Or.inl rfl⟩
theorem zcX4 : GoodIn lw_tbl wsX40 := by
  show GoodIn lw_tbl [.lays "MotionFloor$Motion" "MotionFloor$Motion" "name" "I", .lays "MotionFloor$Motion" "MotionFloor$Motion" "subject" "I", .lays "MotionFloor$Motion" "MotionFloor$Motion" "kind" "I", .lays "MotionFloor$Motion" "MotionFloor$Motion" "mover" "I", .lays "MotionFloor$Motion" "MotionFloor$Motion" "seconder" "I", .lays "MotionFloor$Motion" "MotionFloor$Motion" "floors" "I", .lays "MotionFloor$Motion" "MotionFloor$Motion" "speeches" "I", .lays "MotionFloor$Motion" "MotionFloor$Motion" "closed" "Z", .lays "MotionFloor$Motion" "MotionFloor$Motion" "from" "I", .lays "MotionFloor$Motion" "MotionFloor$Motion" "to" "I", .lays "MotionFloor$Motion" "MotionFloor$Motion" "laid" "Z", .lays "MotionFloor$Motion" "MotionFloor$Motion" "outOfOrder" "Z", .laysFinal "MotionFloor$Motion" "MotionFloor$Motion" "text" "LMotionFloor$Text;", .laysFinal "MotionFloor$Motion" "MotionFloor$Motion" "votes" "[B", .lays "MotionFloor$Motion" "MotionFloor$Motion" "voters" "I", .lays "MotionFloor$Motion" "MotionFloor$Motion" "nextSpare" "LMotionFloor$Motion;"]
  exact wGc z232 (wGc z233 (wGc z234 (wGc z235 (wGc z236 (wGc z237 (wGc z238 (wGc z239 (wGc z240 (wGc z241 (wGc z242 (wGc z243 (wGc z244 (wGc z245 (wGc z246 (wGc z247 (wG0))))))))))))))))
set_option maxRecDepth 100000 in
theorem z248 : wZ (.instantiable RX4 16) := ⟨wT2 (List.mem_of_getElem? (i := 239) (by decide +kernel)), Or.inl rfl⟩
set_option maxRecDepth 100000 in
theorem z249 : wZ (.instantiable RX10 5) := ⟨wT1 (List.mem_of_getElem? (i := 18) (by decide +kernel)), Or.inl rfl⟩
set_option maxRecDepth 100000 in
theorem z250 : wZ (.instantiable RX12 7) := ⟨wT5 (List.mem_of_getElem? (i := 22) (by decide +kernel)), Or.inl rfl⟩
set_option maxRecDepth 100000 in
theorem z251 : wZ (.fieldLink RX0 96 "MotionFloor$Pile" "size" "I") := ⟨wT1 (List.mem_of_getElem? (i := 89) (by decide +kernel)), Or.inl rfl⟩
set_option maxRecDepth 100000 in
theorem z252 : wZ (.code yX0_release cX0_release 3 none) := ⟨wT2 (List.mem_of_getElem? (i := 28) rfl), Or.inl rfl⟩
set_option maxRecDepth 100000 in
theorem z253 : wZ (.fieldLink RX0 84 "MotionFloor$Place" "sort" "I") := ⟨wT1 (List.mem_of_getElem? (i := 108) (by decide +kernel)), Or.inl rfl⟩
set_option maxRecDepth 100000 in
theorem z254 : wZ (.selects RX0 yX0_release yX0_release) := ⟨wT2 (List.mem_of_getElem? (i := 27) (by decide +kernel)), Or.inl rfl⟩
set_option maxRecDepth 100000 in
theorem z255 : wZ (.instanceMethod yX0_release) := ⟨wT2 (List.mem_of_getElem? (i := 26) (by decide +kernel)), Or.inl rfl⟩
set_option maxRecDepth 100000 in
theorem z256 : wZ (.methodLink RX0 115 yX0_release) := ⟨wT2 (List.mem_of_getElem? (i := 25) (by decide +kernel)), Or.inl rfl⟩
set_option maxRecDepth 100000 in
theorem z257 : wZ (.fieldLink RX0 87 "MotionFloor$Place" "pile" "LMotionFloor$Pile;") := ⟨wT1 (List.mem_of_getElem? (i := 112) (by decide +kernel)), Or.inl rfl⟩
set_option maxRecDepth 100000 in
theorem z258 : wZ (.code yX0_discard cX0_discard 2 none) := ⟨wT2 (List.mem_of_getElem? (i := 40) rfl), Or.inl rfl⟩
set_option maxRecDepth 100000 in
theorem z259 : wZ (.selects RX0 yX0_discard yX0_discard) := ⟨wT2 (List.mem_of_getElem? (i := 39) (by decide +kernel)), Or.inl rfl⟩
set_option maxRecDepth 100000 in
theorem z260 : wZ (.instanceMethod yX0_discard) := ⟨wT2 (List.mem_of_getElem? (i := 38) (by decide +kernel)), Or.inl rfl⟩
set_option maxRecDepth 100000 in
theorem z261 : wZ (.methodLink RX0 119 yX0_discard) := ⟨wT2 (List.mem_of_getElem? (i := 37) (by decide +kernel)), Or.inl rfl⟩
set_option maxRecDepth 100000 in
theorem z262 : wZ (.code yX0_clear cX0_clear 2 none) := ⟨wT2 (List.mem_of_getElem? (i := 24) rfl), Or.inl rfl⟩
set_option maxRecDepth 100000 in
theorem z263 : wZ (.fieldLink RX0 73 "MotionFloor$Assembly" "reason" "I") := ⟨wT1 (List.mem_of_getElem? (i := 209) (by decide +kernel)), Or.inl rfl⟩
set_option maxRecDepth 100000 in
theorem z264 : wZ (.fieldLink RX0 70 "MotionFloor$Assembly" "names" "I") := ⟨wT1 (List.mem_of_getElem? (i := 207) (by decide +kernel)), Or.inl rfl⟩
set_option maxRecDepth 100000 in
theorem z265 : wZ (.fieldLink RX0 67 "MotionFloor$Assembly" "adoptions" "I") := ⟨wT1 (List.mem_of_getElem? (i := 204) (by decide +kernel)), Or.inl rfl⟩
set_option maxRecDepth 100000 in
theorem z266 : wZ (.fieldLink RX0 66 "MotionFloor$Text" "size" "I") := ⟨wT1 (List.mem_of_getElem? (i := 155) (by decide +kernel)), Or.inl rfl⟩
set_option maxRecDepth 100000 in
theorem z267 : wZ (.fieldLink RX0 62 "MotionFloor$Ledger" "size" "I") := ⟨wT1 (List.mem_of_getElem? (i := 134) (by decide +kernel)), Or.inl rfl⟩
set_option maxRecDepth 100000 in
theorem z268 : wZ (.selects RX0 yX0_clear yX0_clear) := ⟨wT2 (List.mem_of_getElem? (i := 23) (by decide +kernel)), Or.inl rfl⟩
set_option maxRecDepth 100000 in
theorem z269 : wZ (.instanceMethod yX0_clear) := ⟨wT2 (List.mem_of_getElem? (i := 22) (by decide +kernel)), Or.inl rfl⟩
set_option maxRecDepth 100000 in
theorem z270 : wZ (.methodLink RX0 59 yX0_clear) := ⟨wT2 (List.mem_of_getElem? (i := 21) (by decide +kernel)), Or.inl rfl⟩
set_option maxRecDepth 100000 in
theorem z271 : wZ (.code yX0_begin cX0_begin 2 none) := ⟨wT2 (List.mem_of_getElem? (i := 20) rfl), Or.inl rfl⟩
set_option maxRecDepth 100000 in
theorem z272 : wZ (.selects RX0 yX0_begin yX0_begin) := ⟨wT2 (List.mem_of_getElem? (i := 19) (by decide +kernel)), Or.inl rfl⟩
set_option maxRecDepth 100000 in
theorem z273 : wZ (.instanceMethod yX0_begin) := ⟨wT2 (List.mem_of_getElem? (i := 18) (by decide +kernel)), Or.inl rfl⟩
set_option maxRecDepth 100000 in
theorem z274 : wZ (.methodLink RX10 28 yX0_begin) := ⟨wT2 (List.mem_of_getElem? (i := 17) (by decide +kernel)), Or.inl rfl⟩
set_option maxRecDepth 100000 in
theorem z275 : wZ (.code yX10_seats cX10_seats 2 (some .int)) := ⟨wT2 (List.mem_of_getElem? (i := 16) rfl), Or.inl rfl⟩
set_option maxRecDepth 100000 in
theorem z276 : wZ (.code yX12_in cX12_in 3 (some .boolean)) := ⟨wT5 (List.mem_of_getElem? (i := 228) rfl), Or.inl rfl⟩
set_option maxRecDepth 100000 in
theorem z277 : wZ (.initialized RX12) := ⟨wT1 (List.mem_of_getElem? (i := 10) (by decide +kernel)), Or.inl rfl⟩
set_option maxRecDepth 100000 in
theorem z278 : wZ (.static yX12_in) := ⟨wT5 (List.mem_of_getElem? (i := 227) (by decide +kernel)), Or.inl rfl⟩
set_option maxRecDepth 100000 in
theorem z279 : wZ (.methodLink RX12 1 yX12_in) := ⟨wT5 (List.mem_of_getElem? (i := 226) (by decide +kernel)), Or.inl rfl⟩
set_option maxRecDepth 100000 in
theorem z280 : wZ (.code yX12_seats cX12_seats 2 (some .int)) := ⟨wT5 (List.mem_of_getElem? (i := 225) rfl), Or.inl rfl⟩
set_option maxRecDepth 100000 in
theorem z281 : wZ (.selects RX12 yX12_seats yX12_seats) := ⟨wT5 (List.mem_of_getElem? (i := 224) (by decide +kernel)), Or.inl rfl⟩
set_option maxRecDepth 100000 in
theorem z282 : wZ (.instanceMethod yX12_seats) := ⟨wT5 (List.mem_of_getElem? (i := 223) (by decide +kernel)), Or.inl rfl⟩
set_option maxRecDepth 100000 in
theorem z283 : wZ (.methodLink RL 17 yX12_seats) := ⟨wT5 (List.mem_of_getElem? (i := 222) (by decide +kernel)), Or.inl rfl⟩
set_option maxRecDepth 100000 in
theorem z284 : wZ (.initialized RX10) := ⟨wT1 (List.mem_of_getElem? (i := 1) (by decide +kernel)), Or.inl rfl⟩
set_option maxRecDepth 100000 in
theorem z285 : wZ (.selects RX10 yX10_seats yX10_seats) := ⟨wT2 (List.mem_of_getElem? (i := 15) (by decide +kernel)), Or.inl rfl⟩
set_option maxRecDepth 100000 in
theorem z286 : wZ (.instanceMethod yX10_seats) := ⟨wT2 (List.mem_of_getElem? (i := 14) (by decide +kernel)), Or.inl rfl⟩
set_option maxRecDepth 100000 in
theorem z287 : wZ (.methodLink RL 13 yX10_seats) := ⟨wT2 (List.mem_of_getElem? (i := 13) (by decide +kernel)), Or.inl rfl⟩
set_option maxRecDepth 100000 in
theorem z288 : wZ (.code yX2_has cX2_has 2 (some .boolean)) := ⟨wT2 (List.mem_of_getElem? (i := 61) rfl), Or.inl rfl⟩
set_option maxRecDepth 100000 in
theorem z289 : wZ (.code yX2_isThere cX2_isThere 2 (some .boolean)) := ⟨wT2 (List.mem_of_getElem? (i := 65) rfl), Or.inl rfl⟩
set_option maxRecDepth 100000 in
theorem z290 : wZ (.selects RX2 yX2_isThere yX2_isThere) := ⟨wT2 (List.mem_of_getElem? (i := 64) (by decide +kernel)), Or.inl rfl⟩
set_option maxRecDepth 100000 in
theorem z291 : wZ (.instanceMethod yX2_isThere) := ⟨wT2 (List.mem_of_getElem? (i := 63) (by decide +kernel)), Or.inl rfl⟩
set_option maxRecDepth 100000 in
theorem z292 : wZ (.methodLink RX8 82 yX2_isThere) := ⟨wT2 (List.mem_of_getElem? (i := 62) (by decide +kernel)), Or.inl rfl⟩
set_option maxRecDepth 100000 in
theorem z293 : wZ (.selects RX2 yX2_has yX2_has) := ⟨wT2 (List.mem_of_getElem? (i := 60) (by decide +kernel)), Or.inl rfl⟩
set_option maxRecDepth 100000 in
theorem z294 : wZ (.instanceMethod yX2_has) := ⟨wT2 (List.mem_of_getElem? (i := 59) (by decide +kernel)), Or.inl rfl⟩
set_option maxRecDepth 100000 in
theorem z295 : wZ (.methodLink RX8 114 yX2_has) := ⟨wT2 (List.mem_of_getElem? (i := 58) (by decide +kernel)), Or.inl rfl⟩
set_option maxRecDepth 100000 in
theorem z296 : wZ (.code yX8_againstThere cX8_againstThere 2 (some .int)) := ⟨wT2 (List.mem_of_getElem? (i := 57) rfl), Or.inl rfl⟩
set_option maxRecDepth 100000 in
theorem z297 : wZ (.initialized RX8) := ⟨wT1 (List.mem_of_getElem? (i := 12) (by decide +kernel)), Or.inl rfl⟩
set_option maxRecDepth 100000 in
theorem z298 : wZ (.static yX8_againstThere) := ⟨wT2 (List.mem_of_getElem? (i := 56) (by decide +kernel)), Or.inl rfl⟩
set_option maxRecDepth 100000 in
theorem z299 : wZ (.methodLink RX8 38 yX8_againstThere) := ⟨wT2 (List.mem_of_getElem? (i := 55) (by decide +kernel)), Or.inl rfl⟩
set_option maxRecDepth 100000 in
theorem z300 : wZ (.fieldLink RX8 34 "MotionFloor$Assembly" "house" "LMotionFloor$House;") := ⟨wT1 (List.mem_of_getElem? (i := 180) (by decide +kernel)), Or.inl rfl⟩
set_option maxRecDepth 100000 in
theorem z301 : wZ (.code yX8_againstOnFloor cX8_againstOnFloor 4 (some .int)) := ⟨wT2 (List.mem_of_getElem? (i := 54) rfl), Or.inl rfl⟩
set_option maxRecDepth 100000 in
theorem z302 : wZ (.fieldLink RX3 28 "MotionFloor$Ledger" "size" "I") := ⟨wT1 (List.mem_of_getElem? (i := 133) (by decide +kernel)), Or.inl rfl⟩
set_option maxRecDepth 100000 in
theorem z303 : wZ (.code yX3_isFull cX3_isFull 1 (some .boolean)) := ⟨wT2 (List.mem_of_getElem? (i := 193) rfl), Or.inl rfl⟩
set_option maxRecDepth 100000 in
theorem z304 : wZ (.selects RX3 yX3_isFull yX3_isFull) := ⟨wT2 (List.mem_of_getElem? (i := 192) (by decide +kernel)), Or.inl rfl⟩
set_option maxRecDepth 100000 in
theorem z305 : wZ (.instanceMethod yX3_isFull) := ⟨wT2 (List.mem_of_getElem? (i := 191) (by decide +kernel)), Or.inl rfl⟩
set_option maxRecDepth 100000 in
theorem z306 : wZ (.methodLink RX8 28 yX3_isFull) := ⟨wT2 (List.mem_of_getElem? (i := 190) (by decide +kernel)), Or.inl rfl⟩
set_option maxRecDepth 100000 in
theorem z307 : wZ (.fieldLink RX8 22 "MotionFloor$Assembly" "minutes" "LMotionFloor$Ledger;") := ⟨wT1 (List.mem_of_getElem? (i := 195) (by decide +kernel)), Or.inl rfl⟩
set_option maxRecDepth 100000 in
theorem z308 : wZ (.static yX8_againstOnFloor) := ⟨wT2 (List.mem_of_getElem? (i := 53) (by decide +kernel)), Or.inl rfl⟩
set_option maxRecDepth 100000 in
theorem z309 : wZ (.methodLink RX8 9 yX8_againstOnFloor) := ⟨wT2 (List.mem_of_getElem? (i := 52) (by decide +kernel)), Or.inl rfl⟩
set_option maxRecDepth 100000 in
theorem z310 : wZ (.code yX8_against cX8_against 7 (some .int)) := ⟨wT2 (List.mem_of_getElem? (i := 51) rfl), Or.inl rfl⟩
set_option maxRecDepth 100000 in
theorem z311 : wZ (.code yX5_at cX5_at 2 (some (.object "MotionFloor$Motion"))) := ⟨wT2 (List.mem_of_getElem? (i := 82) rfl), Or.inl rfl⟩
set_option maxRecDepth 100000 in
theorem z312 : wZ (.selects RX5 yX5_at yX5_at) := ⟨wT2 (List.mem_of_getElem? (i := 81) (by decide +kernel)), Or.inl rfl⟩
set_option maxRecDepth 100000 in
theorem z313 : wZ (.instanceMethod yX5_at) := ⟨wT2 (List.mem_of_getElem? (i := 80) (by decide +kernel)), Or.inl rfl⟩
set_option maxRecDepth 100000 in
theorem z314 : wZ (.methodLink RX5 21 yX5_at) := ⟨wT2 (List.mem_of_getElem? (i := 79) (by decide +kernel)), Or.inl rfl⟩
set_option maxRecDepth 100000 in
theorem z315 : wZ (.fieldLink RX5 17 "MotionFloor$Pile" "size" "I") := ⟨wT1 (List.mem_of_getElem? (i := 87) (by decide +kernel)), Or.inl rfl⟩
set_option maxRecDepth 100000 in
theorem z316 : wZ (.code yX5_top cX5_top 1 (some (.object "MotionFloor$Motion"))) := ⟨wT2 (List.mem_of_getElem? (i := 78) rfl), Or.inl rfl⟩
set_option maxRecDepth 100000 in
theorem z317 : wZ (.methodLink RX2 53 yX2_has) := ⟨wT2 (List.mem_of_getElem? (i := 202) (by decide +kernel)), Or.inl rfl⟩
set_option maxRecDepth 100000 in
theorem z318 : wZ (.code yX2_arrive cX2_arrive 2 (some .int)) := ⟨wT2 (List.mem_of_getElem? (i := 201) rfl), Or.inl rfl⟩
set_option maxRecDepth 100000 in
theorem z319 : wZ (.selects RX2 yX2_arrive yX2_arrive) := ⟨wT2 (List.mem_of_getElem? (i := 200) (by decide +kernel)), Or.inl rfl⟩
set_option maxRecDepth 100000 in
theorem z320 : wZ (.instanceMethod yX2_arrive) := ⟨wT2 (List.mem_of_getElem? (i := 199) (by decide +kernel)), Or.inl rfl⟩
set_option maxRecDepth 100000 in
theorem z321 : wZ (.methodLink RX1 25 yX2_arrive) := ⟨wT2 (List.mem_of_getElem? (i := 198) (by decide +kernel)), Or.inl rfl⟩
set_option maxRecDepth 100000 in
theorem z322 : wZ (.fieldLink RX1 21 "MotionFloor$Assembly" "house" "LMotionFloor$House;") := ⟨wT1 (List.mem_of_getElem? (i := 179) (by decide +kernel)), Or.inl rfl⟩
set_option maxRecDepth 100000 in
theorem z323 : wZ (.selects RX5 yX5_top yX5_top) := ⟨wT2 (List.mem_of_getElem? (i := 77) (by decide +kernel)), Or.inl rfl⟩
set_option maxRecDepth 100000 in
theorem z324 : wZ (.instanceMethod yX5_top) := ⟨wT2 (List.mem_of_getElem? (i := 76) (by decide +kernel)), Or.inl rfl⟩
set_option maxRecDepth 100000 in
theorem z325 : wZ (.methodLink RX1 15 yX5_top) := ⟨wT2 (List.mem_of_getElem? (i := 197) (by decide +kernel)), Or.inl rfl⟩
set_option maxRecDepth 100000 in
theorem z326 : wZ (.fieldLink RX1 9 "MotionFloor$Assembly" "pending" "LMotionFloor$Pile;") := ⟨wT1 (List.mem_of_getElem? (i := 183) (by decide +kernel)), Or.inl rfl⟩
set_option maxRecDepth 100000 in
theorem z327 : wZ (.code yX1_perform cX1_perform 7 (some .int)) := ⟨wT2 (List.mem_of_getElem? (i := 196) rfl), Or.inl rfl⟩
set_option maxRecDepth 100000 in
theorem z328 : wZ (.code yX3_makeRoom cX3_makeRoom 3 none) := ⟨wT3 (List.mem_of_getElem? (i := 193) rfl), Or.inl rfl⟩
set_option maxRecDepth 100000 in
theorem z329 : wZ (.selects RX3 yX3_makeRoom yX3_makeRoom) := ⟨wT3 (List.mem_of_getElem? (i := 192) (by decide +kernel)), Or.inl rfl⟩
set_option maxRecDepth 100000 in
theorem z330 : wZ (.instanceMethod yX3_makeRoom) := ⟨wT3 (List.mem_of_getElem? (i := 191) (by decide +kernel)), Or.inl rfl⟩
set_option maxRecDepth 100000 in
theorem z331 : wZ (.methodLink RX3 35 yX3_makeRoom) := ⟨wT3 (List.mem_of_getElem? (i := 190) (by decide +kernel)), Or.inl rfl⟩
set_option maxRecDepth 100000 in
theorem z332 : wZ (.methodLink RX3 31 yX3_isFull) := ⟨wT3 (List.mem_of_getElem? (i := 189) (by decide +kernel)), Or.inl rfl⟩
set_option maxRecDepth 100000 in
theorem z333 : wZ (.code yX3_open cX3_open 1 none) := ⟨wT3 (List.mem_of_getElem? (i := 188) rfl), Or.inl rfl⟩
set_option maxRecDepth 100000 in
theorem z334 : wZ (.code yX3_write cX3_write 4 none) := ⟨wT3 (List.mem_of_getElem? (i := 214) rfl), Or.inl rfl⟩
set_option maxRecDepth 100000 in
theorem z335 : wZ (.selects RX3 yX3_write yX3_write) := ⟨wT3 (List.mem_of_getElem? (i := 213) (by decide +kernel)), Or.inl rfl⟩
set_option maxRecDepth 100000 in
theorem z336 : wZ (.instanceMethod yX3_write) := ⟨wT3 (List.mem_of_getElem? (i := 212) (by decide +kernel)), Or.inl rfl⟩
set_option maxRecDepth 100000 in
theorem z337 : wZ (.methodLink RX0 169 yX3_write) := ⟨wT4 (List.mem_of_getElem? (i := 27) (by decide +kernel)), Or.inl rfl⟩
set_option maxRecDepth 100000 in
theorem z338 : wZ (.selects RX3 yX3_open yX3_open) := ⟨wT3 (List.mem_of_getElem? (i := 187) (by decide +kernel)), Or.inl rfl⟩
set_option maxRecDepth 100000 in
theorem z339 : wZ (.instanceMethod yX3_open) := ⟨wT3 (List.mem_of_getElem? (i := 186) (by decide +kernel)), Or.inl rfl⟩
set_option maxRecDepth 100000 in
theorem z340 : wZ (.methodLink RX0 166 yX3_open) := ⟨wT4 (List.mem_of_getElem? (i := 26) (by decide +kernel)), Or.inl rfl⟩
set_option maxRecDepth 100000 in
theorem z341 : wZ (.initialized RX1) := ⟨wT1 (List.mem_of_getElem? (i := 13) (by decide +kernel)), Or.inl rfl⟩
set_option maxRecDepth 100000 in
theorem z342 : wZ (.static yX1_perform) := ⟨wT2 (List.mem_of_getElem? (i := 195) (by decide +kernel)), Or.inl rfl⟩
set_option maxRecDepth 100000 in
theorem z343 : wZ (.methodLink RX0 161 yX1_perform) := ⟨wT2 (List.mem_of_getElem? (i := 194) (by decide +kernel)), Or.inl rfl⟩
set_option maxRecDepth 100000 in
theorem z344 : wZ (.static yX8_against) := ⟨wT2 (List.mem_of_getElem? (i := 50) (by decide +kernel)), Or.inl rfl⟩
set_option maxRecDepth 100000 in
theorem z345 : wZ (.methodLink RX0 155 yX8_against) := ⟨wT2 (List.mem_of_getElem? (i := 49) (by decide +kernel)), Or.inl rfl⟩
set_option maxRecDepth 100000 in
theorem z346 : wZ (.code yX0_enact cX0_enact 7 (some .int)) := ⟨wT2 (List.mem_of_getElem? (i := 48) rfl), Or.inl rfl⟩
set_option maxRecDepth 100000 in
theorem z347 : wZ (.selects RX0 yX0_enact yX0_enact) := ⟨wT2 (List.mem_of_getElem? (i := 47) (by decide +kernel)), Or.inl rfl⟩
set_option maxRecDepth 100000 in
theorem z348 : wZ (.instanceMethod yX0_enact) := ⟨wT2 (List.mem_of_getElem? (i := 46) (by decide +kernel)), Or.inl rfl⟩
set_option maxRecDepth 100000 in
theorem z349 : wZ (.methodLink RX10 32 yX0_enact) := ⟨wT2 (List.mem_of_getElem? (i := 45) (by decide +kernel)), Or.inl rfl⟩
set_option maxRecDepth 100000 in
theorem z350 : wZ (.code yX10_there cX10_there 2 (some .int)) := ⟨wT2 (List.mem_of_getElem? (i := 44) rfl), Or.inl rfl⟩
set_option maxRecDepth 100000 in
theorem z351 : wZ (.code yX11_isSeat cX11_isSeat 2 (some .boolean)) := ⟨wT6 (List.mem_of_getElem? (i := 4) rfl), Or.inl rfl⟩
set_option maxRecDepth 100000 in
theorem z352 : wZ (.selects RX11 yX11_isSeat yX11_isSeat) := ⟨List.mem_append_left _ (List.mem_of_getElem? (i := 3) (by decide +kernel)), Or.inl rfl⟩
set_option maxRecDepth 100000 in
theorem z353 : wZ (.instanceMethod yX11_isSeat) := ⟨wT6 (List.mem_of_getElem? (i := 3) (by decide +kernel)), Or.inl rfl⟩
set_option maxRecDepth 100000 in
theorem z354 : wZ (.methodLink RX11 140 yX11_isSeat) := ⟨wT6 (List.mem_of_getElem? (i := 1) (by decide +kernel)), Or.inl rfl⟩
set_option maxRecDepth 100000 in
theorem z355 : wZ (.code yX11_reason cX11_reason 6 (some .int)) := ⟨wT6 (List.mem_of_getElem? (i := 0) rfl), Or.inl rfl⟩
set_option maxRecDepth 100000 in
theorem z356 : wZ (.code yX11_does cX11_does 7 (some .int)) := ⟨wT6 (List.mem_of_getElem? (i := 56) rfl), Or.inl rfl⟩
set_option maxRecDepth 100000 in
theorem z357 : wZ (.code yX12_numbers cX12_numbers 1 (some .int)) := ⟨wT6 (List.mem_of_getElem? (i := 115) rfl), Or.inl rfl⟩
set_option maxRecDepth 100000 in
theorem z358 : wZ (.static yX12_numbers) := ⟨wT6 (List.mem_of_getElem? (i := 114) (by decide +kernel)), Or.inl rfl⟩
set_option maxRecDepth 100000 in
theorem z359 : wZ (.selects RX11 yX11_does yX11_does) := ⟨List.mem_append_left _ (List.mem_of_getElem? (i := 13) (by decide +kernel)), Or.inl rfl⟩
set_option maxRecDepth 100000 in
theorem z360 : wZ (.instanceMethod yX11_does) := ⟨wT6 (List.mem_of_getElem? (i := 55) (by decide +kernel)), Or.inl rfl⟩
set_option maxRecDepth 100000 in
theorem z361 : wZ (.methodLink RX11 200 yX11_does) := ⟨wT6 (List.mem_of_getElem? (i := 53) (by decide +kernel)), Or.inl rfl⟩
set_option maxRecDepth 100000 in
theorem z362 : wZ (.selects RX11 yX11_reason yX11_reason) := ⟨List.mem_append_left _ (List.mem_of_getElem? (i := 2) (by decide +kernel)), Or.inl rfl⟩
set_option maxRecDepth 100000 in
theorem z363 : wZ (.instanceMethod yX11_reason) := ⟨wT5 (List.mem_of_getElem? (i := 239) (by decide +kernel)), Or.inl rfl⟩
set_option maxRecDepth 100000 in
theorem z364 : wZ (.methodLink RX11 196 yX11_reason) := ⟨wT5 (List.mem_of_getElem? (i := 237) (by decide +kernel)), Or.inl rfl⟩
set_option maxRecDepth 100000 in
theorem z365 : wZ (.code yX11_act cX11_act 10 (some .int)) := ⟨wT5 (List.mem_of_getElem? (i := 236) rfl), Or.inl rfl⟩
set_option maxRecDepth 100000 in
theorem z366 : wZ (.selects RX11 yX11_act yX11_act) := ⟨wT5 (List.mem_of_getElem? (i := 235) (by decide +kernel)), Or.inl rfl⟩
set_option maxRecDepth 100000 in
theorem z367 : wZ (.instanceMethod yX11_act) := ⟨wT5 (List.mem_of_getElem? (i := 234) (by decide +kernel)), Or.inl rfl⟩
set_option maxRecDepth 100000 in
theorem z368 : wZ (.methodLink RX12 40 yX11_act) := ⟨wT5 (List.mem_of_getElem? (i := 233) (by decide +kernel)), Or.inl rfl⟩
set_option maxRecDepth 100000 in
theorem z369 : wZ (.code yX12_there cX12_there 2 (some .int)) := ⟨wT5 (List.mem_of_getElem? (i := 232) rfl), Or.inl rfl⟩
set_option maxRecDepth 100000 in
theorem z370 : wZ (.selects RX12 yX12_there yX12_there) := ⟨wT5 (List.mem_of_getElem? (i := 231) (by decide +kernel)), Or.inl rfl⟩
set_option maxRecDepth 100000 in
theorem z371 : wZ (.instanceMethod yX12_there) := ⟨wT5 (List.mem_of_getElem? (i := 230) (by decide +kernel)), Or.inl rfl⟩
set_option maxRecDepth 100000 in
theorem z372 : wZ (.methodLink RL 21 yX12_there) := ⟨wT5 (List.mem_of_getElem? (i := 229) (by decide +kernel)), Or.inl rfl⟩
set_option maxRecDepth 100000 in
theorem z373 : wZ (.selects RX10 yX10_there yX10_there) := ⟨wT2 (List.mem_of_getElem? (i := 43) (by decide +kernel)), Or.inl rfl⟩
set_option maxRecDepth 100000 in
theorem z374 : wZ (.instanceMethod yX10_there) := ⟨wT2 (List.mem_of_getElem? (i := 42) (by decide +kernel)), Or.inl rfl⟩
set_option maxRecDepth 100000 in
theorem z375 : wZ (.methodLink RL 18 yX10_there) := ⟨wT2 (List.mem_of_getElem? (i := 41) (by decide +kernel)), Or.inl rfl⟩
set_option maxRecDepth 100000 in
theorem z376 : wZ (.code yX8_againstAbsent cX8_againstAbsent 2 (some .int)) := ⟨wT2 (List.mem_of_getElem? (i := 68) rfl), Or.inl rfl⟩
set_option maxRecDepth 100000 in
theorem z377 : wZ (.static yX8_againstAbsent) := ⟨wT2 (List.mem_of_getElem? (i := 67) (by decide +kernel)), Or.inl rfl⟩
set_option maxRecDepth 100000 in
theorem z378 : wZ (.methodLink RX8 42 yX8_againstAbsent) := ⟨wT2 (List.mem_of_getElem? (i := 66) (by decide +kernel)), Or.inl rfl⟩
set_option maxRecDepth 100000 in
theorem z379 : wZ (.code yX10_gone cX10_gone 2 (some .int)) := ⟨wT4 (List.mem_of_getElem? (i := 31) rfl), Or.inl rfl⟩
set_option maxRecDepth 100000 in
theorem z380 : wZ (.code yX12_gone cX12_gone 2 (some .int)) := ⟨wT6 (List.mem_of_getElem? (i := 119) rfl), Or.inl rfl⟩
set_option maxRecDepth 100000 in
theorem z381 : wZ (.selects RX12 yX12_gone yX12_gone) := ⟨wT6 (List.mem_of_getElem? (i := 118) (by decide +kernel)), Or.inl rfl⟩
set_option maxRecDepth 100000 in
theorem z382 : wZ (.instanceMethod yX12_gone) := ⟨wT6 (List.mem_of_getElem? (i := 117) (by decide +kernel)), Or.inl rfl⟩
set_option maxRecDepth 100000 in
theorem z383 : wZ (.methodLink RL 25 yX12_gone) := ⟨wT6 (List.mem_of_getElem? (i := 116) (by decide +kernel)), Or.inl rfl⟩
set_option maxRecDepth 100000 in
theorem z384 : wZ (.selects RX10 yX10_gone yX10_gone) := ⟨wT4 (List.mem_of_getElem? (i := 30) (by decide +kernel)), Or.inl rfl⟩
set_option maxRecDepth 100000 in
theorem z385 : wZ (.instanceMethod yX10_gone) := ⟨wT4 (List.mem_of_getElem? (i := 29) (by decide +kernel)), Or.inl rfl⟩
set_option maxRecDepth 100000 in
theorem z386 : wZ (.methodLink RL 22 yX10_gone) := ⟨wT4 (List.mem_of_getElem? (i := 28) (by decide +kernel)), Or.inl rfl⟩
set_option maxRecDepth 100000 in
theorem z387 : wZ (.code yX8_againstSetting cX8_againstSetting 2 (some .int)) := ⟨wT2 (List.mem_of_getElem? (i := 71) rfl), Or.inl rfl⟩
set_option maxRecDepth 100000 in
theorem z388 : wZ (.fieldLink RX8 117 "MotionFloor$Pile" "size" "I") := ⟨wT1 (List.mem_of_getElem? (i := 91) (by decide +kernel)), Or.inl rfl⟩
set_option maxRecDepth 100000 in
theorem z389 : wZ (.fieldLink RX8 86 "MotionFloor$Assembly" "pending" "LMotionFloor$Pile;") := ⟨wT1 (List.mem_of_getElem? (i := 185) (by decide +kernel)), Or.inl rfl⟩
