set_option maxRecDepth 100000 in
theorem z0 : wZ (.lays "MotionFloor$House" "MotionFloor$House" "seats" "I") := ⟨wT1 (List.mem_of_getElem? (i := 59) (by decide +kernel)), Or.inl rfl⟩
set_option maxRecDepth 100000 in
theorem z1 : wZ (.laysFinal "MotionFloor$House" "MotionFloor$House" "there" "[Z") := ⟨wT1 (List.mem_of_getElem? (i := 61) (by decide +kernel)), Or.inl rfl⟩
set_option maxRecDepth 100000 in
theorem z2 : wZ (.lays "MotionFloor$House" "MotionFloor$House" "present" "I") := ⟨wT1 (List.mem_of_getElem? (i := 63) (by decide +kernel)), Or.inl rfl⟩
set_option maxRecDepth 100000 in
theorem z3 : wZ (.lays "MotionFloor$House" "MotionFloor$House" "chair" "I") := ⟨wT1 (List.mem_of_getElem? (i := 65) (by decide +kernel)), Or.inl rfl⟩
set_option maxRecDepth 100000 in
theorem z4 : wZ (.lays "MotionFloor$House" "MotionFloor$House" "quorum" "I") := ⟨wT1 (List.mem_of_getElem? (i := 67) (by decide +kernel)), Or.inl rfl⟩
set_option maxRecDepth 100000 in
theorem z5 : wZ (.lays "MotionFloor$House" "MotionFloor$House" "limit" "I") := ⟨wT1 (List.mem_of_getElem? (i := 69) (by decide +kernel)), Or.inl rfl⟩
set_option maxRecDepth 100000 in
theorem z6 : wZ (.lays "MotionFloor$House" "MotionFloor$House" "speaker" "I") := ⟨wT1 (List.mem_of_getElem? (i := 71) (by decide +kernel)), Or.inl rfl⟩
set_option maxRecDepth 100000 in
theorem z7 : wZ (.laysFinal "MotionFloor$House" "MotionFloor$House" "majorities" "[I") := ⟨wT1 (List.mem_of_getElem? (i := 73) (by decide +kernel)), Or.inl rfl⟩
theorem zcX2 : GoodIn lw_tbl wsX20 := by
  show GoodIn lw_tbl [.lays "MotionFloor$House" "MotionFloor$House" "seats" "I", .laysFinal "MotionFloor$House" "MotionFloor$House" "there" "[Z", .lays "MotionFloor$House" "MotionFloor$House" "present" "I", .lays "MotionFloor$House" "MotionFloor$House" "chair" "I", .lays "MotionFloor$House" "MotionFloor$House" "quorum" "I", .lays "MotionFloor$House" "MotionFloor$House" "limit" "I", .lays "MotionFloor$House" "MotionFloor$House" "speaker" "I", .laysFinal "MotionFloor$House" "MotionFloor$House" "majorities" "[I"]
  exact wGc z0 (wGc z1 (wGc z2 (wGc z3 (wGc z4 (wGc z5 (wGc z6 (wGc z7 (wG0))))))))
set_option maxRecDepth 100000 in
theorem z8 : wZ (.fieldLink RX2 15 "MotionFloor$House" "majorities" "[I") := ⟨wT1 (List.mem_of_getElem? (i := 58) (by decide +kernel)), Or.inl rfl⟩
set_option maxRecDepth 100000 in
theorem z9 : wZ (.arrayClass .int) := ⟨wT1 (List.mem_of_getElem? (i := 77) (by decide +kernel)), Or.inr ⟨_, rfl⟩⟩
set_option maxRecDepth 100000 in
theorem z10 : wZ (.fieldLink RX2 9 "MotionFloor$House" "there" "[Z") := ⟨wT1 (List.mem_of_getElem? (i := 39) (by decide +kernel)), Or.inl rfl⟩
set_option maxRecDepth 100000 in
theorem z11 : wZ (.arrayClass .boolean) := ⟨wT1 (List.mem_of_getElem? (i := 76) (by decide +kernel)), Or.inr ⟨_, rfl⟩⟩
set_option maxRecDepth 100000 in
theorem z12 : wZ (.code objectInit ⟨#[0xb1]⟩ 1 none) := ⟨wT1 (List.mem_of_getElem? (i := 24) rfl), Or.inl rfl⟩
set_option maxRecDepth 100000 in
theorem z13 : wZ (.instanceMethod objectInit) := ⟨wT1 (List.mem_of_getElem? (i := 23) (by decide +kernel)), Or.inl rfl⟩
set_option maxRecDepth 100000 in
theorem z14 : wZ (.methodLink RX2 3 objectInit) := ⟨wT1 (List.mem_of_getElem? (i := 36) (by decide +kernel)), Or.inl rfl⟩
set_option maxRecDepth 100000 in
theorem z15 : wZ (.code yX2_init cX2_init 1 none) := ⟨wT1 (List.mem_of_getElem? (i := 35) rfl), Or.inl rfl⟩
set_option maxRecDepth 100000 in
theorem z16 : wZ (.laysFinal "MotionFloor$Pile" "MotionFloor$Pile" "motions" "[LMotionFloor$Motion;") := ⟨wT1 (List.mem_of_getElem? (i := 94) (by decide +kernel)), Or.inl rfl⟩
set_option maxRecDepth 100000 in
theorem z17 : wZ (.lays "MotionFloor$Pile" "MotionFloor$Pile" "size" "I") := ⟨wT1 (List.mem_of_getElem? (i := 96) (by decide +kernel)), Or.inl rfl⟩
theorem zcX5 : GoodIn lw_tbl wsX50 := by
  show GoodIn lw_tbl [.laysFinal "MotionFloor$Pile" "MotionFloor$Pile" "motions" "[LMotionFloor$Motion;", .lays "MotionFloor$Pile" "MotionFloor$Pile" "size" "I"]
  exact wGc z16 (wGc z17 (wG0))
set_option maxRecDepth 100000 in
theorem z18 : wZ (.fieldLink RX5 11 "MotionFloor$Pile" "motions" "[LMotionFloor$Motion;") := ⟨wT1 (List.mem_of_getElem? (i := 86) (by decide +kernel)), Or.inl rfl⟩
set_option maxRecDepth 100000 in
theorem z19 : wZ (.classLink RX5 9 RX4) := ⟨wT1 (List.mem_of_getElem? (i := 84) (by decide +kernel)), Or.inl rfl⟩
set_option maxRecDepth 100000 in
theorem z20 : wZ (.methodLink RX5 3 objectInit) := ⟨wT1 (List.mem_of_getElem? (i := 83) (by decide +kernel)), Or.inl rfl⟩
set_option maxRecDepth 100000 in
theorem z21 : wZ (.code yX5_init cX5_init 1 none) := ⟨wT1 (List.mem_of_getElem? (i := 82) rfl), Or.inl rfl⟩
set_option maxRecDepth 100000 in
theorem z22 : wZ (.lays "MotionFloor$Place" "MotionFloor$Place" "sort" "I") := ⟨wT1 (List.mem_of_getElem? (i := 115) (by decide +kernel)), Or.inl rfl⟩
set_option maxRecDepth 100000 in
theorem z23 : wZ (.laysFinal "MotionFloor$Place" "MotionFloor$Place" "pile" "LMotionFloor$Pile;") := ⟨wT1 (List.mem_of_getElem? (i := 117) (by decide +kernel)), Or.inl rfl⟩
theorem zcX6 : GoodIn lw_tbl wsX60 := by
  show GoodIn lw_tbl [.lays "MotionFloor$Place" "MotionFloor$Place" "sort" "I", .laysFinal "MotionFloor$Place" "MotionFloor$Place" "pile" "LMotionFloor$Pile;"]
  exact wGc z22 (wGc z23 (wG0))
set_option maxRecDepth 100000 in
theorem z24 : wZ (.fieldLink RX6 18 "MotionFloor$Place" "pile" "LMotionFloor$Pile;") := ⟨wT1 (List.mem_of_getElem? (i := 111) (by decide +kernel)), Or.inl rfl⟩
set_option maxRecDepth 100000 in
theorem z25 : wZ (.instanceMethod yX5_init) := ⟨wT1 (List.mem_of_getElem? (i := 81) (by decide +kernel)), Or.inl rfl⟩
set_option maxRecDepth 100000 in
theorem z26 : wZ (.initialized RX5) := ⟨wT1 (List.mem_of_getElem? (i := 4) (by decide +kernel)), Or.inl rfl⟩
set_option maxRecDepth 100000 in
theorem z27 : wZ (.instantiable RX5 2) := ⟨wT1 (List.mem_of_getElem? (i := 79) (by decide +kernel)), Or.inl rfl⟩
set_option maxRecDepth 100000 in
theorem z28 : wZ (.classLink RX6 15 RX5) := ⟨wT1 (List.mem_of_getElem? (i := 105) (by decide +kernel)), Or.inl rfl⟩
set_option maxRecDepth 100000 in
theorem z29 : wZ (.fieldLink RX6 9 "MotionFloor$Place" "sort" "I") := ⟨wT1 (List.mem_of_getElem? (i := 107) (by decide +kernel)), Or.inl rfl⟩
set_option maxRecDepth 100000 in
theorem z30 : wZ (.methodLink RX6 3 objectInit) := ⟨wT1 (List.mem_of_getElem? (i := 104) (by decide +kernel)), Or.inl rfl⟩
set_option maxRecDepth 100000 in
theorem z31 : wZ (.code yX6_init cX6_init 1 none) := ⟨wT1 (List.mem_of_getElem? (i := 103) rfl), Or.inl rfl⟩
set_option maxRecDepth 100000 in
theorem z32 : wZ (.laysFinal "MotionFloor$Ledger" "MotionFloor$Ledger" "columns" "I") := ⟨wT1 (List.mem_of_getElem? (i := 137) (by decide +kernel)), Or.inl rfl⟩
set_option maxRecDepth 100000 in
theorem z33 : wZ (.laysFinal "MotionFloor$Ledger" "MotionFloor$Ledger" "most" "I") := ⟨wT1 (List.mem_of_getElem? (i := 139) (by decide +kernel)), Or.inl rfl⟩
set_option maxRecDepth 100000 in
theorem z34 : wZ (.lays "MotionFloor$Ledger" "MotionFloor$Ledger" "cells" "[I") := ⟨wT1 (List.mem_of_getElem? (i := 141) (by decide +kernel)), Or.inl rfl⟩
set_option maxRecDepth 100000 in
theorem z35 : wZ (.lays "MotionFloor$Ledger" "MotionFloor$Ledger" "size" "I") := ⟨wT1 (List.mem_of_getElem? (i := 143) (by decide +kernel)), Or.inl rfl⟩
theorem zcX3 : GoodIn lw_tbl wsX30 := by
  show GoodIn lw_tbl [.laysFinal "MotionFloor$Ledger" "MotionFloor$Ledger" "columns" "I", .laysFinal "MotionFloor$Ledger" "MotionFloor$Ledger" "most" "I", .lays "MotionFloor$Ledger" "MotionFloor$Ledger" "cells" "[I", .lays "MotionFloor$Ledger" "MotionFloor$Ledger" "size" "I"]
  exact wGc z32 (wGc z33 (wGc z34 (wGc z35 (wG0))))
set_option maxRecDepth 100000 in
theorem z36 : wZ (.fieldLink RX3 24 "MotionFloor$Ledger" "cells" "[I") := ⟨wT1 (List.mem_of_getElem? (i := 132) (by decide +kernel)), Or.inl rfl⟩
set_option maxRecDepth 100000 in
theorem z37 : wZ (.fieldLink RX3 21 "MotionFloor$Ledger" "most" "I") := ⟨wT1 (List.mem_of_getElem? (i := 131) (by decide +kernel)), Or.inl rfl⟩
set_option maxRecDepth 100000 in
theorem z38 : wZ (.fieldLink RX3 15 "MotionFloor$Ledger" "columns" "I") := ⟨wT1 (List.mem_of_getElem? (i := 130) (by decide +kernel)), Or.inl rfl⟩
set_option maxRecDepth 100000 in
theorem z39 : wZ (.code Lib.Math.max.name Lib.Math.max.code 2 (some .int)) := ⟨wT1 (List.mem_of_getElem? (i := 129) rfl), Or.inl rfl⟩
set_option maxRecDepth 100000 in
theorem z40 : wZ (.initialized "java/lang/Math") := ⟨wT1 (List.mem_of_getElem? (i := 7) (by decide +kernel)), Or.inl rfl⟩
set_option maxRecDepth 100000 in
theorem z41 : wZ (.static Lib.Math.max.name) := ⟨wT1 (List.mem_of_getElem? (i := 128) (by decide +kernel)), Or.inl rfl⟩
set_option maxRecDepth 100000 in
theorem z42 : wZ (.methodLink RX3 9 Lib.Math.max.name) := ⟨wT1 (List.mem_of_getElem? (i := 127) (by decide +kernel)), Or.inl rfl⟩
set_option maxRecDepth 100000 in
theorem z43 : wZ (.methodLink RX3 3 objectInit) := ⟨wT1 (List.mem_of_getElem? (i := 126) (by decide +kernel)), Or.inl rfl⟩
set_option maxRecDepth 100000 in
theorem z44 : wZ (.code yX3_init cX3_init 3 none) := ⟨wT1 (List.mem_of_getElem? (i := 125) rfl), Or.inl rfl⟩
set_option maxRecDepth 100000 in
theorem z45 : wZ (.laysFinal "MotionFloor$Text" "MotionFloor$Text" "words" "[I") := ⟨wT1 (List.mem_of_getElem? (i := 161) (by decide +kernel)), Or.inl rfl⟩
set_option maxRecDepth 100000 in
theorem z46 : wZ (.lays "MotionFloor$Text" "MotionFloor$Text" "size" "I") := ⟨wT1 (List.mem_of_getElem? (i := 163) (by decide +kernel)), Or.inl rfl⟩
theorem zcX9 : GoodIn lw_tbl wsX90 := by
  show GoodIn lw_tbl [.laysFinal "MotionFloor$Text" "MotionFloor$Text" "words" "[I", .lays "MotionFloor$Text" "MotionFloor$Text" "size" "I"]
  exact wGc z45 (wGc z46 (wG0))
set_option maxRecDepth 100000 in
theorem z47 : wZ (.fieldLink RX9 9 "MotionFloor$Text" "words" "[I") := ⟨wT1 (List.mem_of_getElem? (i := 152) (by decide +kernel)), Or.inl rfl⟩
set_option maxRecDepth 100000 in
theorem z48 : wZ (.methodLink RX9 3 objectInit) := ⟨wT1 (List.mem_of_getElem? (i := 151) (by decide +kernel)), Or.inl rfl⟩
set_option maxRecDepth 100000 in
theorem z49 : wZ (.code yX9_init cX9_init 1 none) := ⟨wT1 (List.mem_of_getElem? (i := 150) rfl), Or.inl rfl⟩
set_option maxRecDepth 100000 in
theorem z50 : wZ (.fieldLink RX2 44 "MotionFloor$House" "speaker" "I") := ⟨wT1 (List.mem_of_getElem? (i := 55) (by decide +kernel)), Or.inl rfl⟩
set_option maxRecDepth 100000 in
theorem z51 : wZ (.fieldLink RX2 41 "MotionFloor$House" "present" "I") := ⟨wT1 (List.mem_of_getElem? (i := 40) (by decide +kernel)), Or.inl rfl⟩
set_option maxRecDepth 100000 in
theorem z52 : wZ (.code yX2_empty cX2_empty 2 none) := ⟨wT1 (List.mem_of_getElem? (i := 173) rfl), Or.inl rfl⟩
set_option maxRecDepth 100000 in
theorem z53 : wZ (.code yJ7_fill_53178 cJ7_fill_53178 4 none) := ⟨wT1 (List.mem_of_getElem? (i := 176) rfl), Or.inl rfl⟩
set_option maxRecDepth 100000 in
theorem z54 : wZ (.initialized RJ7) := ⟨wT1 (List.mem_of_getElem? (i := 9) (by decide +kernel)), Or.inl rfl⟩
set_option maxRecDepth 100000 in
theorem z55 : wZ (.static yJ7_fill_53178) := ⟨wT1 (List.mem_of_getElem? (i := 175) (by decide +kernel)), Or.inl rfl⟩
set_option maxRecDepth 100000 in
theorem z56 : wZ (.methodLink RX2 35 yJ7_fill_53178) := ⟨wT1 (List.mem_of_getElem? (i := 174) (by decide +kernel)), Or.inl rfl⟩
set_option maxRecDepth 100000 in
theorem z57 : wZ (.initialized RX2) := ⟨wT1 (List.mem_of_getElem? (i := 3) (by decide +kernel)), Or.inl rfl⟩
set_option maxRecDepth 100000 in
theorem z58 : wZ (.selects RX2 yX2_empty yX2_empty) := ⟨wT1 (List.mem_of_getElem? (i := 172) (by decide +kernel)), Or.inl rfl⟩
set_option maxRecDepth 100000 in
theorem z59 : wZ (.instanceMethod yX2_empty) := ⟨wT1 (List.mem_of_getElem? (i := 171) (by decide +kernel)), Or.inl rfl⟩
set_option maxRecDepth 100000 in
theorem z60 : wZ (.methodLink RX2 32 yX2_empty) := ⟨wT1 (List.mem_of_getElem? (i := 170) (by decide +kernel)), Or.inl rfl⟩
set_option maxRecDepth 100000 in
theorem z61 : wZ (.fieldLink RX2 29 "MotionFloor$House" "chair" "I") := ⟨wT1 (List.mem_of_getElem? (i := 42) (by decide +kernel)), Or.inl rfl⟩
set_option maxRecDepth 100000 in
theorem z62 : wZ (.fieldLink RX2 26 "MotionFloor$House" "limit" "I") := ⟨wT1 (List.mem_of_getElem? (i := 49) (by decide +kernel)), Or.inl rfl⟩
set_option maxRecDepth 100000 in
theorem z63 : wZ (.fieldLink RX2 23 "MotionFloor$House" "quorum" "I") := ⟨wT1 (List.mem_of_getElem? (i := 46) (by decide +kernel)), Or.inl rfl⟩
set_option maxRecDepth 100000 in
theorem z64 : wZ (.fieldLink RX2 19 "MotionFloor$House" "seats" "I") := ⟨wT1 (List.mem_of_getElem? (i := 37) (by decide +kernel)), Or.inl rfl⟩
set_option maxRecDepth 100000 in
theorem z65 : wZ (.code yX2_begin cX2_begin 2 none) := ⟨wT1 (List.mem_of_getElem? (i := 169) rfl), Or.inl rfl⟩
set_option maxRecDepth 100000 in
theorem z66 : wZ (.laysFinal "MotionFloor$Assembly" "MotionFloor$Assembly" "house" "LMotionFloor$House;") := ⟨wT1 (List.mem_of_getElem? (i := 212) (by decide +kernel)), Or.inl rfl⟩
set_option maxRecDepth 100000 in
theorem z67 : wZ (.laysFinal "MotionFloor$Assembly" "MotionFloor$Assembly" "pending" "LMotionFloor$Pile;") := ⟨wT1 (List.mem_of_getElem? (i := 214) (by decide +kernel)), Or.inl rfl⟩
set_option maxRecDepth 100000 in
theorem z68 : wZ (.laysFinal "MotionFloor$Assembly" "MotionFloor$Assembly" "draft" "LMotionFloor$Place;") := ⟨wT1 (List.mem_of_getElem? (i := 216) (by decide +kernel)), Or.inl rfl⟩
set_option maxRecDepth 100000 in
theorem z69 : wZ (.laysFinal "MotionFloor$Assembly" "MotionFloor$Assembly" "desk" "[LMotionFloor$Place;") := ⟨wT1 (List.mem_of_getElem? (i := 218) (by decide +kernel)), Or.inl rfl⟩
set_option maxRecDepth 100000 in
theorem z70 : wZ (.laysFinal "MotionFloor$Assembly" "MotionFloor$Assembly" "minutes" "LMotionFloor$Ledger;") := ⟨wT1 (List.mem_of_getElem? (i := 220) (by decide +kernel)), Or.inl rfl⟩
set_option maxRecDepth 100000 in
theorem z71 : wZ (.laysFinal "MotionFloor$Assembly" "MotionFloor$Assembly" "results" "LMotionFloor$Ledger;") := ⟨wT1 (List.mem_of_getElem? (i := 222) (by decide +kernel)), Or.inl rfl⟩
set_option maxRecDepth 100000 in
theorem z72 : wZ (.laysFinal "MotionFloor$Assembly" "MotionFloor$Assembly" "adopted" "LMotionFloor$Text;") := ⟨wT1 (List.mem_of_getElem? (i := 224) (by decide +kernel)), Or.inl rfl⟩
set_option maxRecDepth 100000 in
theorem z73 : wZ (.lays "MotionFloor$Assembly" "MotionFloor$Assembly" "adoptions" "I") := ⟨wT1 (List.mem_of_getElem? (i := 226) (by decide +kernel)), Or.inl rfl⟩
set_option maxRecDepth 100000 in
theorem z74 : wZ (.lays "MotionFloor$Assembly" "MotionFloor$Assembly" "names" "I") := ⟨wT1 (List.mem_of_getElem? (i := 228) (by decide +kernel)), Or.inl rfl⟩
set_option maxRecDepth 100000 in
theorem z75 : wZ (.lays "MotionFloor$Assembly" "MotionFloor$Assembly" "reason" "I") := ⟨wT1 (List.mem_of_getElem? (i := 230) (by decide +kernel)), Or.inl rfl⟩
set_option maxRecDepth 100000 in
theorem z76 : wZ (.lays "MotionFloor$Assembly" "MotionFloor$Assembly" "spare" "LMotionFloor$Motion;") := ⟨wT1 (List.mem_of_getElem? (i := 232) (by decide +kernel)), Or.inl rfl⟩
theorem zcX0 : GoodIn lw_tbl wsX00 := by
  show GoodIn lw_tbl [.laysFinal "MotionFloor$Assembly" "MotionFloor$Assembly" "house" "LMotionFloor$House;", .laysFinal "MotionFloor$Assembly" "MotionFloor$Assembly" "pending" "LMotionFloor$Pile;", .laysFinal "MotionFloor$Assembly" "MotionFloor$Assembly" "draft" "LMotionFloor$Place;", .laysFinal "MotionFloor$Assembly" "MotionFloor$Assembly" "desk" "[LMotionFloor$Place;", .laysFinal "MotionFloor$Assembly" "MotionFloor$Assembly" "minutes" "LMotionFloor$Ledger;", .laysFinal "MotionFloor$Assembly" "MotionFloor$Assembly" "results" "LMotionFloor$Ledger;", .laysFinal "MotionFloor$Assembly" "MotionFloor$Assembly" "adopted" "LMotionFloor$Text;", .lays "MotionFloor$Assembly" "MotionFloor$Assembly" "adoptions" "I", .lays "MotionFloor$Assembly" "MotionFloor$Assembly" "names" "I", .lays "MotionFloor$Assembly" "MotionFloor$Assembly" "reason" "I", .lays "MotionFloor$Assembly" "MotionFloor$Assembly" "spare" "LMotionFloor$Motion;"]
  exact wGc z66 (wGc z67 (wGc z68 (wGc z69 (wGc z70 (wGc z71 (wGc z72 (wGc z73 (wGc z74 (wGc z75 (wGc z76 (wG0)))))))))))
set_option maxRecDepth 100000 in
theorem z77 : wZ (.selects RX2 yX2_begin yX2_begin) := ⟨wT1 (List.mem_of_getElem? (i := 168) (by decide +kernel)), Or.inl rfl⟩
set_option maxRecDepth 100000 in
theorem z78 : wZ (.instanceMethod yX2_begin) := ⟨wT1 (List.mem_of_getElem? (i := 167) (by decide +kernel)), Or.inl rfl⟩
set_option maxRecDepth 100000 in
theorem z79 : wZ (.methodLink RX0 55 yX2_begin) := ⟨wT1 (List.mem_of_getElem? (i := 166) (by decide +kernel)), Or.inl rfl⟩
set_option maxRecDepth 100000 in
theorem z80 : wZ (.fieldLink RX0 51 "MotionFloor$Assembly" "adopted" "LMotionFloor$Text;") := ⟨wT1 (List.mem_of_getElem? (i := 201) (by decide +kernel)), Or.inl rfl⟩
set_option maxRecDepth 100000 in
theorem z81 : wZ (.instanceMethod yX9_init) := ⟨wT1 (List.mem_of_getElem? (i := 149) (by decide +kernel)), Or.inl rfl⟩
set_option maxRecDepth 100000 in
theorem z82 : wZ (.initialized RX9) := ⟨wT1 (List.mem_of_getElem? (i := 8) (by decide +kernel)), Or.inl rfl⟩
set_option maxRecDepth 100000 in
theorem z83 : wZ (.instantiable RX9 2) := ⟨wT1 (List.mem_of_getElem? (i := 147) (by decide +kernel)), Or.inl rfl⟩
set_option maxRecDepth 100000 in
theorem z84 : wZ (.classLink RX0 48 RX9) := ⟨wT1 (List.mem_of_getElem? (i := 146) (by decide +kernel)), Or.inl rfl⟩
set_option maxRecDepth 100000 in
theorem z85 : wZ (.fieldLink RX0 45 "MotionFloor$Assembly" "results" "LMotionFloor$Ledger;") := ⟨wT1 (List.mem_of_getElem? (i := 198) (by decide +kernel)), Or.inl rfl⟩
set_option maxRecDepth 100000 in
theorem z86 : wZ (.fieldLink RX0 41 "MotionFloor$Assembly" "minutes" "LMotionFloor$Ledger;") := ⟨wT1 (List.mem_of_getElem? (i := 194) (by decide +kernel)), Or.inl rfl⟩
set_option maxRecDepth 100000 in
theorem z87 : wZ (.instanceMethod yX3_init) := ⟨wT1 (List.mem_of_getElem? (i := 124) (by decide +kernel)), Or.inl rfl⟩
set_option maxRecDepth 100000 in
theorem z88 : wZ (.methodLink RX0 38 yX3_init) := ⟨wT1 (List.mem_of_getElem? (i := 123) (by decide +kernel)), Or.inl rfl⟩
set_option maxRecDepth 100000 in
theorem z89 : wZ (.initialized RX3) := ⟨wT1 (List.mem_of_getElem? (i := 6) (by decide +kernel)), Or.inl rfl⟩
set_option maxRecDepth 100000 in
theorem z90 : wZ (.instantiable RX3 4) := ⟨wT1 (List.mem_of_getElem? (i := 122) (by decide +kernel)), Or.inl rfl⟩
set_option maxRecDepth 100000 in
theorem z91 : wZ (.classLink RX0 36 RX3) := ⟨wT1 (List.mem_of_getElem? (i := 121) (by decide +kernel)), Or.inl rfl⟩
set_option maxRecDepth 100000 in
theorem z92 : wZ (.fieldLink RX0 32 "MotionFloor$Assembly" "desk" "[LMotionFloor$Place;") := ⟨wT1 (List.mem_of_getElem? (i := 192) (by decide +kernel)), Or.inl rfl⟩
set_option maxRecDepth 100000 in
theorem z93 : wZ (.fieldLink RX0 28 "MotionFloor$Assembly" "draft" "LMotionFloor$Place;") := ⟨wT1 (List.mem_of_getElem? (i := 187) (by decide +kernel)), Or.inl rfl⟩
set_option maxRecDepth 100000 in
theorem z94 : wZ (.instanceMethod yX6_init) := ⟨wT1 (List.mem_of_getElem? (i := 102) (by decide +kernel)), Or.inl rfl⟩
set_option maxRecDepth 100000 in
theorem z95 : wZ (.initialized RX6) := ⟨wT1 (List.mem_of_getElem? (i := 5) (by decide +kernel)), Or.inl rfl⟩
set_option maxRecDepth 100000 in
theorem z96 : wZ (.instantiable RX6 2) := ⟨wT1 (List.mem_of_getElem? (i := 100) (by decide +kernel)), Or.inl rfl⟩
set_option maxRecDepth 100000 in
theorem z97 : wZ (.classLink RX0 25 RX6) := ⟨wT1 (List.mem_of_getElem? (i := 99) (by decide +kernel)), Or.inl rfl⟩
set_option maxRecDepth 100000 in
theorem z98 : wZ (.fieldLink RX0 21 "MotionFloor$Assembly" "pending" "LMotionFloor$Pile;") := ⟨wT1 (List.mem_of_getElem? (i := 182) (by decide +kernel)), Or.inl rfl⟩
set_option maxRecDepth 100000 in
theorem z99 : wZ (.classLink RX0 18 RX5) := ⟨wT1 (List.mem_of_getElem? (i := 78) (by decide +kernel)), Or.inl rfl⟩
set_option maxRecDepth 100000 in
theorem z100 : wZ (.fieldLink RX0 12 "MotionFloor$Assembly" "house" "LMotionFloor$House;") := ⟨wT1 (List.mem_of_getElem? (i := 177) (by decide +kernel)), Or.inl rfl⟩
set_option maxRecDepth 100000 in
theorem z101 : wZ (.instanceMethod yX2_init) := ⟨wT1 (List.mem_of_getElem? (i := 34) (by decide +kernel)), Or.inl rfl⟩
set_option maxRecDepth 100000 in
theorem z102 : wZ (.instantiable RX2 8) := ⟨wT1 (List.mem_of_getElem? (i := 32) (by decide +kernel)), Or.inl rfl⟩
set_option maxRecDepth 100000 in
theorem z103 : wZ (.classLink RX0 9 RX2) := ⟨wT1 (List.mem_of_getElem? (i := 31) (by decide +kernel)), Or.inl rfl⟩
set_option maxRecDepth 100000 in
theorem z104 : wZ (.methodLink RX0 3 objectInit) := ⟨wT1 (List.mem_of_getElem? (i := 30) (by decide +kernel)), Or.inl rfl⟩
set_option maxRecDepth 100000 in
theorem z105 : wZ (.code yX0_init cX0_init 2 none) := ⟨wT1 (List.mem_of_getElem? (i := 29) rfl), Or.inl rfl⟩
set_option maxRecDepth 100000 in
theorem z106 : wZ (.laysFinal "MotionFloor" "MotionFloor" "now" "LMotionFloor$Assembly;") := ⟨wT2 (List.mem_of_getElem? (i := 2) (by decide +kernel)), Or.inl rfl⟩
set_option maxRecDepth 100000 in
theorem z107 : wZ (.laysFinal "MotionFloor" "MotionFloor" "trial" "LMotionFloor$Assembly;") := ⟨wT2 (List.mem_of_getElem? (i := 4) (by decide +kernel)), Or.inl rfl⟩
set_option maxRecDepth 100000 in
theorem z108 : wZ (.lays "MotionFloor" "MotionFloor" "firstImage" "LMotionFloor$Assembly;") := ⟨wT2 (List.mem_of_getElem? (i := 6) (by decide +kernel)), Or.inl rfl⟩
set_option maxRecDepth 100000 in
theorem z109 : wZ (.lays "MotionFloor" "MotionFloor" "secondImage" "LMotionFloor$Assembly;") := ⟨wT2 (List.mem_of_getElem? (i := 8) (by decide +kernel)), Or.inl rfl⟩
set_option maxRecDepth 100000 in
theorem z110 : wZ (.laysFinal "MotionFloor" "MotionFloor" "row" "LMotionFloor$Ledger;") := ⟨wT2 (List.mem_of_getElem? (i := 10) (by decide +kernel)), Or.inl rfl⟩
theorem zcX10 : GoodIn lw_tbl wsX100 := by
  show GoodIn lw_tbl [.laysFinal "MotionFloor" "MotionFloor" "now" "LMotionFloor$Assembly;", .laysFinal "MotionFloor" "MotionFloor" "trial" "LMotionFloor$Assembly;", .lays "MotionFloor" "MotionFloor" "firstImage" "LMotionFloor$Assembly;", .lays "MotionFloor" "MotionFloor" "secondImage" "LMotionFloor$Assembly;", .laysFinal "MotionFloor" "MotionFloor" "row" "LMotionFloor$Ledger;"]
  exact wGc z106 (wGc z107 (wGc z108 (wGc z109 (wGc z110 (wG0)))))
set_option maxRecDepth 100000 in
theorem z111 : wZ (.fieldLink RX10 24 "MotionFloor" "row" "LMotionFloor$Ledger;") := ⟨wT2 (List.mem_of_getElem? (i := 1) (by decide +kernel)), Or.inl rfl⟩
set_option maxRecDepth 100000 in
theorem z112 : wZ (.methodLink RX10 21 yX3_init) := ⟨wT1 (List.mem_of_getElem? (i := 236) (by decide +kernel)), Or.inl rfl⟩
set_option maxRecDepth 100000 in
theorem z113 : wZ (.classLink RX10 19 RX3) := ⟨wT1 (List.mem_of_getElem? (i := 235) (by decide +kernel)), Or.inl rfl⟩
set_option maxRecDepth 100000 in
theorem z114 : wZ (.fieldLink RX10 16 "MotionFloor" "trial" "LMotionFloor$Assembly;") := ⟨wT1 (List.mem_of_getElem? (i := 238) (by decide +kernel)), Or.inl rfl⟩
set_option maxRecDepth 100000 in
theorem z115 : wZ (.fieldLink RX10 10 "MotionFloor" "now" "LMotionFloor$Assembly;") := ⟨wT1 (List.mem_of_getElem? (i := 237) (by decide +kernel)), Or.inl rfl⟩
set_option maxRecDepth 100000 in
theorem z116 : wZ (.instanceMethod yX0_init) := ⟨wT1 (List.mem_of_getElem? (i := 28) (by decide +kernel)), Or.inl rfl⟩
set_option maxRecDepth 100000 in
theorem z117 : wZ (.methodLink RX10 9 yX0_init) := ⟨wT1 (List.mem_of_getElem? (i := 27) (by decide +kernel)), Or.inl rfl⟩
set_option maxRecDepth 100000 in
theorem z118 : wZ (.initialized RX0) := ⟨wT1 (List.mem_of_getElem? (i := 2) (by decide +kernel)), Or.inl rfl⟩
set_option maxRecDepth 100000 in
theorem z119 : wZ (.instantiable RX0 11) := ⟨wT1 (List.mem_of_getElem? (i := 26) (by decide +kernel)), Or.inl rfl⟩
set_option maxRecDepth 100000 in
theorem z120 : wZ (.classLink RX10 7 RX0) := ⟨wT1 (List.mem_of_getElem? (i := 25) (by decide +kernel)), Or.inl rfl⟩
set_option maxRecDepth 100000 in
theorem z121 : wZ (.methodLink RX10 1 objectInit) := ⟨wT1 (List.mem_of_getElem? (i := 22) (by decide +kernel)), Or.inl rfl⟩
set_option maxRecDepth 100000 in
theorem z122 : wZ (.code yX10_init cX10_init 1 none) := ⟨wT1 (List.mem_of_getElem? (i := 21) rfl), Or.inl rfl⟩
set_option maxRecDepth 100000 in
theorem z123 : wZ (.lays "MotionFloorModel$Hall" "MotionFloorModel$Hall" "seats" "I") := ⟨wT5 (List.mem_of_getElem? (i := 111) (by decide +kernel)), Or.inl rfl⟩
set_option maxRecDepth 100000 in
theorem z124 : wZ (.lays "MotionFloorModel$Hall" "MotionFloorModel$Hall" "there" "I") := ⟨wT5 (List.mem_of_getElem? (i := 113) (by decide +kernel)), Or.inl rfl⟩
set_option maxRecDepth 100000 in
theorem z125 : wZ (.lays "MotionFloorModel$Hall" "MotionFloorModel$Hall" "chair" "I") := ⟨wT5 (List.mem_of_getElem? (i := 115) (by decide +kernel)), Or.inl rfl⟩
set_option maxRecDepth 100000 in
theorem z126 : wZ (.lays "MotionFloorModel$Hall" "MotionFloorModel$Hall" "quorum" "I") := ⟨wT5 (List.mem_of_getElem? (i := 117) (by decide +kernel)), Or.inl rfl⟩
set_option maxRecDepth 100000 in
theorem z127 : wZ (.lays "MotionFloorModel$Hall" "MotionFloorModel$Hall" "limit" "I") := ⟨wT5 (List.mem_of_getElem? (i := 119) (by decide +kernel)), Or.inl rfl⟩
set_option maxRecDepth 100000 in
theorem z128 : wZ (.lays "MotionFloorModel$Hall" "MotionFloorModel$Hall" "floor" "I") := ⟨wT5 (List.mem_of_getElem? (i := 121) (by decide +kernel)), Or.inl rfl⟩
set_option maxRecDepth 100000 in
theorem z129 : wZ (.lays "MotionFloorModel$Hall" "MotionFloorModel$Hall" "pending" "I") := ⟨wT5 (List.mem_of_getElem? (i := 123) (by decide +kernel)), Or.inl rfl⟩
set_option maxRecDepth 100000 in
theorem z130 : wZ (.lays "MotionFloorModel$Hall" "MotionFloorModel$Hall" "entries" "I") := ⟨wT5 (List.mem_of_getElem? (i := 125) (by decide +kernel)), Or.inl rfl⟩
set_option maxRecDepth 100000 in
theorem z131 : wZ (.lays "MotionFloorModel$Hall" "MotionFloorModel$Hall" "results" "I") := ⟨wT5 (List.mem_of_getElem? (i := 127) (by decide +kernel)), Or.inl rfl⟩
set_option maxRecDepth 100000 in
theorem z132 : wZ (.lays "MotionFloorModel$Hall" "MotionFloorModel$Hall" "adopted" "I") := ⟨wT5 (List.mem_of_getElem? (i := 129) (by decide +kernel)), Or.inl rfl⟩
set_option maxRecDepth 100000 in
theorem z133 : wZ (.lays "MotionFloorModel$Hall" "MotionFloorModel$Hall" "why" "I") := ⟨wT5 (List.mem_of_getElem? (i := 131) (by decide +kernel)), Or.inl rfl⟩
set_option maxRecDepth 100000 in
theorem z134 : wZ (.laysFinal "MotionFloorModel$Hall" "MotionFloorModel$Hall" "isThere" "[Z") := ⟨wT5 (List.mem_of_getElem? (i := 133) (by decide +kernel)), Or.inl rfl⟩
set_option maxRecDepth 100000 in
theorem z135 : wZ (.laysFinal "MotionFloorModel$Hall" "MotionFloorModel$Hall" "majority" "[I") := ⟨wT5 (List.mem_of_getElem? (i := 135) (by decide +kernel)), Or.inl rfl⟩
set_option maxRecDepth 100000 in
theorem z136 : wZ (.laysFinal "MotionFloorModel$Hall" "MotionFloorModel$Hall" "used" "[Z") := ⟨wT5 (List.mem_of_getElem? (i := 137) (by decide +kernel)), Or.inl rfl⟩
set_option maxRecDepth 100000 in
theorem z137 : wZ (.laysFinal "MotionFloorModel$Hall" "MotionFloorModel$Hall" "kind" "[I") := ⟨wT5 (List.mem_of_getElem? (i := 139) (by decide +kernel)), Or.inl rfl⟩
set_option maxRecDepth 100000 in
theorem z138 : wZ (.laysFinal "MotionFloorModel$Hall" "MotionFloorModel$Hall" "mover" "[I") := ⟨wT5 (List.mem_of_getElem? (i := 141) (by decide +kernel)), Or.inl rfl⟩
set_option maxRecDepth 100000 in
theorem z139 : wZ (.laysFinal "MotionFloorModel$Hall" "MotionFloorModel$Hall" "seconder" "[I") := ⟨wT5 (List.mem_of_getElem? (i := 143) (by decide +kernel)), Or.inl rfl⟩
set_option maxRecDepth 100000 in
theorem z140 : wZ (.laysFinal "MotionFloorModel$Hall" "MotionFloorModel$Hall" "floors" "[I") := ⟨wT5 (List.mem_of_getElem? (i := 145) (by decide +kernel)), Or.inl rfl⟩
set_option maxRecDepth 100000 in
theorem z141 : wZ (.laysFinal "MotionFloorModel$Hall" "MotionFloorModel$Hall" "speeches" "[I") := ⟨wT5 (List.mem_of_getElem? (i := 147) (by decide +kernel)), Or.inl rfl⟩
set_option maxRecDepth 100000 in
theorem z142 : wZ (.laysFinal "MotionFloorModel$Hall" "MotionFloorModel$Hall" "words" "[I") := ⟨wT5 (List.mem_of_getElem? (i := 149) (by decide +kernel)), Or.inl rfl⟩
set_option maxRecDepth 100000 in
theorem z143 : wZ (.laysFinal "MotionFloorModel$Hall" "MotionFloorModel$Hall" "from" "[I") := ⟨wT5 (List.mem_of_getElem? (i := 151) (by decide +kernel)), Or.inl rfl⟩
set_option maxRecDepth 100000 in
theorem z144 : wZ (.laysFinal "MotionFloorModel$Hall" "MotionFloorModel$Hall" "to" "[I") := ⟨wT5 (List.mem_of_getElem? (i := 153) (by decide +kernel)), Or.inl rfl⟩
set_option maxRecDepth 100000 in
theorem z145 : wZ (.laysFinal "MotionFloorModel$Hall" "MotionFloorModel$Hall" "self" "[I") := ⟨wT5 (List.mem_of_getElem? (i := 155) (by decide +kernel)), Or.inl rfl⟩
set_option maxRecDepth 100000 in
theorem z146 : wZ (.laysFinal "MotionFloorModel$Hall" "MotionFloorModel$Hall" "subject" "[I") := ⟨wT5 (List.mem_of_getElem? (i := 157) (by decide +kernel)), Or.inl rfl⟩
set_option maxRecDepth 100000 in
theorem z147 : wZ (.laysFinal "MotionFloorModel$Hall" "MotionFloorModel$Hall" "closed" "[Z") := ⟨wT5 (List.mem_of_getElem? (i := 159) (by decide +kernel)), Or.inl rfl⟩
set_option maxRecDepth 100000 in
theorem z148 : wZ (.laysFinal "MotionFloorModel$Hall" "MotionFloorModel$Hall" "laid" "[Z") := ⟨wT5 (List.mem_of_getElem? (i := 161) (by decide +kernel)), Or.inl rfl⟩
set_option maxRecDepth 100000 in
theorem z149 : wZ (.laysFinal "MotionFloorModel$Hall" "MotionFloorModel$Hall" "outside" "[Z") := ⟨wT5 (List.mem_of_getElem? (i := 163) (by decide +kernel)), Or.inl rfl⟩
set_option maxRecDepth 100000 in
theorem z150 : wZ (.laysFinal "MotionFloorModel$Hall" "MotionFloorModel$Hall" "letter" "[Z") := ⟨wT5 (List.mem_of_getElem? (i := 165) (by decide +kernel)), Or.inl rfl⟩
set_option maxRecDepth 100000 in
theorem z151 : wZ (.laysFinal "MotionFloorModel$Hall" "MotionFloorModel$Hall" "text" "[I") := ⟨wT5 (List.mem_of_getElem? (i := 167) (by decide +kernel)), Or.inl rfl⟩
set_option maxRecDepth 100000 in
theorem z152 : wZ (.laysFinal "MotionFloorModel$Hall" "MotionFloorModel$Hall" "ballot" "[B") := ⟨wT5 (List.mem_of_getElem? (i := 169) (by decide +kernel)), Or.inl rfl⟩
set_option maxRecDepth 100000 in
theorem z153 : wZ (.lays "MotionFloorModel$Hall" "MotionFloorModel$Hall" "born" "I") := ⟨wT5 (List.mem_of_getElem? (i := 171) (by decide +kernel)), Or.inl rfl⟩
set_option maxRecDepth 100000 in
theorem z154 : wZ (.laysFinal "MotionFloorModel$Hall" "MotionFloorModel$Hall" "row" "[I") := ⟨wT5 (List.mem_of_getElem? (i := 173) (by decide +kernel)), Or.inl rfl⟩
set_option maxRecDepth 100000 in
theorem z155 : wZ (.laysFinal "MotionFloorModel$Hall" "MotionFloorModel$Hall" "draft" "[I") := ⟨wT5 (List.mem_of_getElem? (i := 175) (by decide +kernel)), Or.inl rfl⟩
set_option maxRecDepth 100000 in
theorem z156 : wZ (.laysFinal "MotionFloorModel$Hall" "MotionFloorModel$Hall" "desk" "[I") := ⟨wT5 (List.mem_of_getElem? (i := 177) (by decide +kernel)), Or.inl rfl⟩
set_option maxRecDepth 100000 in
theorem z157 : wZ (.laysFinal "MotionFloorModel$Hall" "MotionFloorModel$Hall" "lying" "[I") := ⟨wT5 (List.mem_of_getElem? (i := 179) (by decide +kernel)), Or.inl rfl⟩
set_option maxRecDepth 100000 in
theorem z158 : wZ (.lays "MotionFloorModel$Hall" "MotionFloorModel$Hall" "drafted" "I") := ⟨wT5 (List.mem_of_getElem? (i := 181) (by decide +kernel)), Or.inl rfl⟩
set_option maxRecDepth 100000 in
theorem z159 : wZ (.lays "MotionFloorModel$Hall" "MotionFloorModel$Hall" "draftTabled" "Z") := ⟨wT5 (List.mem_of_getElem? (i := 183) (by decide +kernel)), Or.inl rfl⟩
set_option maxRecDepth 100000 in
theorem z160 : wZ (.laysFinal "MotionFloorModel$Hall" "MotionFloorModel$Hall" "tabled" "[Z") := ⟨wT5 (List.mem_of_getElem? (i := 185) (by decide +kernel)), Or.inl rfl⟩
set_option maxRecDepth 100000 in
theorem z161 : wZ (.laysFinal "MotionFloorModel$Hall" "MotionFloorModel$Hall" "last" "[I") := ⟨wT5 (List.mem_of_getElem? (i := 187) (by decide +kernel)), Or.inl rfl⟩
set_option maxRecDepth 100000 in
theorem z162 : wZ (.lays "MotionFloorModel$Hall" "MotionFloorModel$Hall" "lastWords" "I") := ⟨wT5 (List.mem_of_getElem? (i := 189) (by decide +kernel)), Or.inl rfl⟩
set_option maxRecDepth 100000 in
theorem z163 : wZ (.laysFinal "MotionFloorModel$Hall" "MotionFloorModel$Hall" "minutes" "[I") := ⟨wT5 (List.mem_of_getElem? (i := 191) (by decide +kernel)), Or.inl rfl⟩
set_option maxRecDepth 100000 in
theorem z164 : wZ (.laysFinal "MotionFloorModel$Hall" "MotionFloorModel$Hall" "result" "[I") := ⟨wT5 (List.mem_of_getElem? (i := 193) (by decide +kernel)), Or.inl rfl⟩
theorem zcX11 : GoodIn lw_tbl wsX110 := by
  show GoodIn lw_tbl [.lays "MotionFloorModel$Hall" "MotionFloorModel$Hall" "seats" "I", .lays "MotionFloorModel$Hall" "MotionFloorModel$Hall" "there" "I", .lays "MotionFloorModel$Hall" "MotionFloorModel$Hall" "chair" "I", .lays "MotionFloorModel$Hall" "MotionFloorModel$Hall" "quorum" "I", .lays "MotionFloorModel$Hall" "MotionFloorModel$Hall" "limit" "I", .lays "MotionFloorModel$Hall" "MotionFloorModel$Hall" "floor" "I", .lays "MotionFloorModel$Hall" "MotionFloorModel$Hall" "pending" "I", .lays "MotionFloorModel$Hall" "MotionFloorModel$Hall" "entries" "I", .lays "MotionFloorModel$Hall" "MotionFloorModel$Hall" "results" "I", .lays "MotionFloorModel$Hall" "MotionFloorModel$Hall" "adopted" "I", .lays "MotionFloorModel$Hall" "MotionFloorModel$Hall" "why" "I", .laysFinal "MotionFloorModel$Hall" "MotionFloorModel$Hall" "isThere" "[Z", .laysFinal "MotionFloorModel$Hall" "MotionFloorModel$Hall" "majority" "[I", .laysFinal "MotionFloorModel$Hall" "MotionFloorModel$Hall" "used" "[Z", .laysFinal "MotionFloorModel$Hall" "MotionFloorModel$Hall" "kind" "[I", .laysFinal "MotionFloorModel$Hall" "MotionFloorModel$Hall" "mover" "[I", .laysFinal "MotionFloorModel$Hall" "MotionFloorModel$Hall" "seconder" "[I", .laysFinal "MotionFloorModel$Hall" "MotionFloorModel$Hall" "floors" "[I", .laysFinal "MotionFloorModel$Hall" "MotionFloorModel$Hall" "speeches" "[I", .laysFinal "MotionFloorModel$Hall" "MotionFloorModel$Hall" "words" "[I", .laysFinal "MotionFloorModel$Hall" "MotionFloorModel$Hall" "from" "[I", .laysFinal "MotionFloorModel$Hall" "MotionFloorModel$Hall" "to" "[I", .laysFinal "MotionFloorModel$Hall" "MotionFloorModel$Hall" "self" "[I", .laysFinal "MotionFloorModel$Hall" "MotionFloorModel$Hall" "subject" "[I", .laysFinal "MotionFloorModel$Hall" "MotionFloorModel$Hall" "closed" "[Z", .laysFinal "MotionFloorModel$Hall" "MotionFloorModel$Hall" "laid" "[Z", .laysFinal "MotionFloorModel$Hall" "MotionFloorModel$Hall" "outside" "[Z", .laysFinal "MotionFloorModel$Hall" "MotionFloorModel$Hall" "letter" "[Z", .laysFinal "MotionFloorModel$Hall" "MotionFloorModel$Hall" "text" "[I", .laysFinal "MotionFloorModel$Hall" "MotionFloorModel$Hall" "ballot" "[B", .lays "MotionFloorModel$Hall" "MotionFloorModel$Hall" "born" "I", .laysFinal "MotionFloorModel$Hall" "MotionFloorModel$Hall" "row" "[I", .laysFinal "MotionFloorModel$Hall" "MotionFloorModel$Hall" "draft" "[I", .laysFinal "MotionFloorModel$Hall" "MotionFloorModel$Hall" "desk" "[I", .laysFinal "MotionFloorModel$Hall" "MotionFloorModel$Hall" "lying" "[I", .lays "MotionFloorModel$Hall" "MotionFloorModel$Hall" "drafted" "I", .lays "MotionFloorModel$Hall" "MotionFloorModel$Hall" "draftTabled" "Z", .laysFinal "MotionFloorModel$Hall" "MotionFloorModel$Hall" "tabled" "[Z", .laysFinal "MotionFloorModel$Hall" "MotionFloorModel$Hall" "last" "[I", .lays "MotionFloorModel$Hall" "MotionFloorModel$Hall" "lastWords" "I", .laysFinal "MotionFloorModel$Hall" "MotionFloorModel$Hall" "minutes" "[I", .laysFinal "MotionFloorModel$Hall" "MotionFloorModel$Hall" "result" "[I"]
  exact wGc z123 (wGc z124 (wGc z125 (wGc z126 (wGc z127 (wGc z128 (wGc z129 (wGc z130 (wGc z131 (wGc z132 (wGc z133 (wGc z134 (wGc z135 (wGc z136 (wGc z137 (wGc z138 (wGc z139 (wGc z140 (wGc z141 (wGc z142 (wGc z143 (wGc z144 (wGc z145 (wGc z146 (wGc z147 (wGc z148 (wGc z149 (wGc z150 (wGc z151 (wGc z152 (wGc z153 (wGc z154 (wGc z155 (wGc z156 (wGc z157 (wGc z158 (wGc z159 (wGc z160 (wGc z161 (wGc z162 (wGc z163 (wGc z164 (wG0))))))))))))))))))))))))))))))))))))))))))
set_option maxRecDepth 100000 in
theorem z165 : wZ (.fieldLink RX11 93 "MotionFloorModel$Hall" "result" "[I") := ⟨wT5 (List.mem_of_getElem? (i := 109) (by decide +kernel)), Or.inl rfl⟩
set_option maxRecDepth 100000 in
theorem z166 : wZ (.fieldLink RX11 90 "MotionFloorModel$Hall" "minutes" "[I") := ⟨wT5 (List.mem_of_getElem? (i := 107) (by decide +kernel)), Or.inl rfl⟩
set_option maxRecDepth 100000 in
theorem z167 : wZ (.fieldLink RX11 87 "MotionFloorModel$Hall" "last" "[I") := ⟨wT5 (List.mem_of_getElem? (i := 104) (by decide +kernel)), Or.inl rfl⟩
set_option maxRecDepth 100000 in
theorem z168 : wZ (.fieldLink RX11 84 "MotionFloorModel$Hall" "tabled" "[Z") := ⟨wT5 (List.mem_of_getElem? (i := 102) (by decide +kernel)), Or.inl rfl⟩
set_option maxRecDepth 100000 in
theorem z169 : wZ (.fieldLink RX11 81 "MotionFloorModel$Hall" "lying" "[I") := ⟨wT5 (List.mem_of_getElem? (i := 96) (by decide +kernel)), Or.inl rfl⟩
set_option maxRecDepth 100000 in
theorem z170 : wZ (.fieldLink RX11 78 "MotionFloorModel$Hall" "desk" "[I") := ⟨wT5 (List.mem_of_getElem? (i := 94) (by decide +kernel)), Or.inl rfl⟩
set_option maxRecDepth 100000 in
theorem z171 : wZ (.fieldLink RX11 75 "MotionFloorModel$Hall" "draft" "[I") := ⟨wT5 (List.mem_of_getElem? (i := 92) (by decide +kernel)), Or.inl rfl⟩
set_option maxRecDepth 100000 in
theorem z172 : wZ (.fieldLink RX11 72 "MotionFloorModel$Hall" "row" "[I") := ⟨wT5 (List.mem_of_getElem? (i := 90) (by decide +kernel)), Or.inl rfl⟩
set_option maxRecDepth 100000 in
theorem z173 : wZ (.fieldLink RX11 68 "MotionFloorModel$Hall" "ballot" "[B") := ⟨wT5 (List.mem_of_getElem? (i := 87) (by decide +kernel)), Or.inl rfl⟩
set_option maxRecDepth 100000 in
theorem z174 : wZ (.arrayClass .byte) := ⟨wT3 (List.mem_of_getElem? (i := 95) (by decide +kernel)), Or.inr ⟨_, rfl⟩⟩
set_option maxRecDepth 100000 in
theorem z175 : wZ (.fieldLink RX11 65 "MotionFloorModel$Hall" "text" "[I") := ⟨wT5 (List.mem_of_getElem? (i := 85) (by decide +kernel)), Or.inl rfl⟩
set_option maxRecDepth 100000 in
theorem z176 : wZ (.constant RX11 64 36000) := ⟨wT5 (List.mem_of_getElem? (i := 33) (by decide +kernel)), Or.inl rfl⟩
set_option maxRecDepth 100000 in
theorem z177 : wZ (.fieldLink RX11 61 "MotionFloorModel$Hall" "letter" "[Z") := ⟨wT5 (List.mem_of_getElem? (i := 83) (by decide +kernel)), Or.inl rfl⟩
set_option maxRecDepth 100000 in
theorem z178 : wZ (.fieldLink RX11 58 "MotionFloorModel$Hall" "outside" "[Z") := ⟨wT5 (List.mem_of_getElem? (i := 81) (by decide +kernel)), Or.inl rfl⟩
set_option maxRecDepth 100000 in
theorem z179 : wZ (.fieldLink RX11 55 "MotionFloorModel$Hall" "laid" "[Z") := ⟨wT5 (List.mem_of_getElem? (i := 80) (by decide +kernel)), Or.inl rfl⟩
set_option maxRecDepth 100000 in
theorem z180 : wZ (.fieldLink RX11 52 "MotionFloorModel$Hall" "closed" "[Z") := ⟨wT5 (List.mem_of_getElem? (i := 78) (by decide +kernel)), Or.inl rfl⟩
set_option maxRecDepth 100000 in
theorem z181 : wZ (.fieldLink RX11 49 "MotionFloorModel$Hall" "subject" "[I") := ⟨wT5 (List.mem_of_getElem? (i := 77) (by decide +kernel)), Or.inl rfl⟩
set_option maxRecDepth 100000 in
theorem z182 : wZ (.fieldLink RX11 46 "MotionFloorModel$Hall" "self" "[I") := ⟨wT5 (List.mem_of_getElem? (i := 76) (by decide +kernel)), Or.inl rfl⟩
set_option maxRecDepth 100000 in
theorem z183 : wZ (.fieldLink RX11 43 "MotionFloorModel$Hall" "to" "[I") := ⟨wT5 (List.mem_of_getElem? (i := 74) (by decide +kernel)), Or.inl rfl⟩
set_option maxRecDepth 100000 in
theorem z184 : wZ (.fieldLink RX11 40 "MotionFloorModel$Hall" "from" "[I") := ⟨wT5 (List.mem_of_getElem? (i := 72) (by decide +kernel)), Or.inl rfl⟩
set_option maxRecDepth 100000 in
theorem z185 : wZ (.fieldLink RX11 37 "MotionFloorModel$Hall" "words" "[I") := ⟨wT5 (List.mem_of_getElem? (i := 70) (by decide +kernel)), Or.inl rfl⟩
set_option maxRecDepth 100000 in
theorem z186 : wZ (.fieldLink RX11 34 "MotionFloorModel$Hall" "speeches" "[I") := ⟨wT5 (List.mem_of_getElem? (i := 68) (by decide +kernel)), Or.inl rfl⟩
set_option maxRecDepth 100000 in
theorem z187 : wZ (.fieldLink RX11 31 "MotionFloorModel$Hall" "floors" "[I") := ⟨wT5 (List.mem_of_getElem? (i := 66) (by decide +kernel)), Or.inl rfl⟩
set_option maxRecDepth 100000 in
theorem z188 : wZ (.fieldLink RX11 28 "MotionFloorModel$Hall" "seconder" "[I") := ⟨wT5 (List.mem_of_getElem? (i := 64) (by decide +kernel)), Or.inl rfl⟩
set_option maxRecDepth 100000 in
theorem z189 : wZ (.fieldLink RX11 25 "MotionFloorModel$Hall" "mover" "[I") := ⟨wT5 (List.mem_of_getElem? (i := 62) (by decide +kernel)), Or.inl rfl⟩
set_option maxRecDepth 100000 in
theorem z190 : wZ (.fieldLink RX11 22 "MotionFloorModel$Hall" "kind" "[I") := ⟨wT5 (List.mem_of_getElem? (i := 60) (by decide +kernel)), Or.inl rfl⟩
set_option maxRecDepth 100000 in
theorem z191 : wZ (.fieldLink RX11 19 "MotionFloorModel$Hall" "used" "[Z") := ⟨wT5 (List.mem_of_getElem? (i := 59) (by decide +kernel)), Or.inl rfl⟩
