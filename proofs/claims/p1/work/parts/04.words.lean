set_option maxRecDepth 100000 in
theorem z0 : wZ (.lays "MotionFloor$House" "MotionFloor$House" "seats" "I") := ⟨List.mem_append_right _ (List.mem_of_getElem? (i := 59) (by decide +kernel)), Or.inl rfl⟩
set_option maxRecDepth 100000 in
theorem z1 : wZ (.laysFinal "MotionFloor$House" "MotionFloor$House" "there" "[Z") := ⟨List.mem_append_right _ (List.mem_of_getElem? (i := 61) (by decide +kernel)), Or.inl rfl⟩
set_option maxRecDepth 100000 in
theorem z2 : wZ (.lays "MotionFloor$House" "MotionFloor$House" "present" "I") := ⟨List.mem_append_right _ (List.mem_of_getElem? (i := 63) (by decide +kernel)), Or.inl rfl⟩
set_option maxRecDepth 100000 in
theorem z3 : wZ (.lays "MotionFloor$House" "MotionFloor$House" "chair" "I") := ⟨List.mem_append_right _ (List.mem_of_getElem? (i := 65) (by decide +kernel)), Or.inl rfl⟩
set_option maxRecDepth 100000 in
theorem z4 : wZ (.lays "MotionFloor$House" "MotionFloor$House" "quorum" "I") := ⟨List.mem_append_right _ (List.mem_of_getElem? (i := 67) (by decide +kernel)), Or.inl rfl⟩
set_option maxRecDepth 100000 in
theorem z5 : wZ (.lays "MotionFloor$House" "MotionFloor$House" "limit" "I") := ⟨List.mem_append_right _ (List.mem_of_getElem? (i := 69) (by decide +kernel)), Or.inl rfl⟩
set_option maxRecDepth 100000 in
theorem z6 : wZ (.lays "MotionFloor$House" "MotionFloor$House" "speaker" "I") := ⟨List.mem_append_right _ (List.mem_of_getElem? (i := 71) (by decide +kernel)), Or.inl rfl⟩
set_option maxRecDepth 100000 in
theorem z7 : wZ (.laysFinal "MotionFloor$House" "MotionFloor$House" "majorities" "[I") := ⟨List.mem_append_right _ (List.mem_of_getElem? (i := 73) (by decide +kernel)), Or.inl rfl⟩
theorem zcX2 : GoodIn lw_tbl wsX20 := by
  show GoodIn lw_tbl [.lays "MotionFloor$House" "MotionFloor$House" "seats" "I", .laysFinal "MotionFloor$House" "MotionFloor$House" "there" "[Z", .lays "MotionFloor$House" "MotionFloor$House" "present" "I", .lays "MotionFloor$House" "MotionFloor$House" "chair" "I", .lays "MotionFloor$House" "MotionFloor$House" "quorum" "I", .lays "MotionFloor$House" "MotionFloor$House" "limit" "I", .lays "MotionFloor$House" "MotionFloor$House" "speaker" "I", .laysFinal "MotionFloor$House" "MotionFloor$House" "majorities" "[I"]
  exact wGc z0 (wGc z1 (wGc z2 (wGc z3 (wGc z4 (wGc z5 (wGc z6 (wGc z7 (wG0))))))))
set_option maxRecDepth 100000 in
theorem z8 : wZ (.fieldLink RX2 15 "MotionFloor$House" "majorities" "[I") := ⟨List.mem_append_right _ (List.mem_of_getElem? (i := 58) (by decide +kernel)), Or.inl rfl⟩
set_option maxRecDepth 100000 in
theorem z9 : wZ (.arrayClass .int) := ⟨List.mem_append_right _ (List.mem_of_getElem? (i := 77) (by decide +kernel)), Or.inr ⟨_, rfl⟩⟩
set_option maxRecDepth 100000 in
theorem z10 : wZ (.fieldLink RX2 9 "MotionFloor$House" "there" "[Z") := ⟨List.mem_append_right _ (List.mem_of_getElem? (i := 39) (by decide +kernel)), Or.inl rfl⟩
set_option maxRecDepth 100000 in
theorem z11 : wZ (.arrayClass .boolean) := ⟨List.mem_append_right _ (List.mem_of_getElem? (i := 76) (by decide +kernel)), Or.inr ⟨_, rfl⟩⟩
set_option maxRecDepth 100000 in
theorem z12 : wZ (.code objectInit ⟨#[0xb1]⟩ 1 none) := ⟨List.mem_append_right _ (List.mem_of_getElem? (i := 24) (by decide +kernel)), Or.inl rfl⟩
set_option maxRecDepth 100000 in
theorem z13 : wZ (.instanceMethod objectInit) := ⟨List.mem_append_right _ (List.mem_of_getElem? (i := 23) (by decide +kernel)), Or.inl rfl⟩
set_option maxRecDepth 100000 in
theorem z14 : wZ (.methodLink RX2 3 objectInit) := ⟨List.mem_append_right _ (List.mem_of_getElem? (i := 36) (by decide +kernel)), Or.inl rfl⟩
set_option maxRecDepth 100000 in
theorem z15 : wZ (.code yX2_init cX2_init 1 none) := ⟨List.mem_append_right _ (List.mem_of_getElem? (i := 35) (by decide +kernel)), Or.inl rfl⟩
set_option maxRecDepth 100000 in
theorem z16 : wZ (.laysFinal "MotionFloor$Pile" "MotionFloor$Pile" "motions" "[LMotionFloor$Motion;") := ⟨List.mem_append_right _ (List.mem_of_getElem? (i := 94) (by decide +kernel)), Or.inl rfl⟩
set_option maxRecDepth 100000 in
theorem z17 : wZ (.lays "MotionFloor$Pile" "MotionFloor$Pile" "size" "I") := ⟨List.mem_append_right _ (List.mem_of_getElem? (i := 96) (by decide +kernel)), Or.inl rfl⟩
theorem zcX5 : GoodIn lw_tbl wsX50 := by
  show GoodIn lw_tbl [.laysFinal "MotionFloor$Pile" "MotionFloor$Pile" "motions" "[LMotionFloor$Motion;", .lays "MotionFloor$Pile" "MotionFloor$Pile" "size" "I"]
  exact wGc z16 (wGc z17 (wG0))
set_option maxRecDepth 100000 in
theorem z18 : wZ (.fieldLink RX5 11 "MotionFloor$Pile" "motions" "[LMotionFloor$Motion;") := ⟨List.mem_append_right _ (List.mem_of_getElem? (i := 86) (by decide +kernel)), Or.inl rfl⟩
set_option maxRecDepth 100000 in
theorem z19 : wZ (.classLink RX5 9 RX4) := ⟨List.mem_append_right _ (List.mem_of_getElem? (i := 84) (by decide +kernel)), Or.inl rfl⟩
set_option maxRecDepth 100000 in
theorem z20 : wZ (.methodLink RX5 3 objectInit) := ⟨List.mem_append_right _ (List.mem_of_getElem? (i := 83) (by decide +kernel)), Or.inl rfl⟩
set_option maxRecDepth 100000 in
theorem z21 : wZ (.code yX5_init cX5_init 1 none) := ⟨List.mem_append_right _ (List.mem_of_getElem? (i := 82) (by decide +kernel)), Or.inl rfl⟩
set_option maxRecDepth 100000 in
theorem z22 : wZ (.lays "MotionFloor$Place" "MotionFloor$Place" "sort" "I") := ⟨List.mem_append_right _ (List.mem_of_getElem? (i := 115) (by decide +kernel)), Or.inl rfl⟩
set_option maxRecDepth 100000 in
theorem z23 : wZ (.laysFinal "MotionFloor$Place" "MotionFloor$Place" "pile" "LMotionFloor$Pile;") := ⟨List.mem_append_right _ (List.mem_of_getElem? (i := 117) (by decide +kernel)), Or.inl rfl⟩
theorem zcX6 : GoodIn lw_tbl wsX60 := by
  show GoodIn lw_tbl [.lays "MotionFloor$Place" "MotionFloor$Place" "sort" "I", .laysFinal "MotionFloor$Place" "MotionFloor$Place" "pile" "LMotionFloor$Pile;"]
  exact wGc z22 (wGc z23 (wG0))
set_option maxRecDepth 100000 in
theorem z24 : wZ (.fieldLink RX6 18 "MotionFloor$Place" "pile" "LMotionFloor$Pile;") := ⟨List.mem_append_right _ (List.mem_of_getElem? (i := 111) (by decide +kernel)), Or.inl rfl⟩
set_option maxRecDepth 100000 in
theorem z25 : wZ (.instanceMethod yX5_init) := ⟨List.mem_append_right _ (List.mem_of_getElem? (i := 81) (by decide +kernel)), Or.inl rfl⟩
set_option maxRecDepth 100000 in
theorem z26 : wZ (.initialized RX5) := ⟨List.mem_append_right _ (List.mem_of_getElem? (i := 4) (by decide +kernel)), Or.inl rfl⟩
set_option maxRecDepth 100000 in
theorem z27 : wZ (.instantiable RX5 2) := ⟨List.mem_append_right _ (List.mem_of_getElem? (i := 79) (by decide +kernel)), Or.inl rfl⟩
set_option maxRecDepth 100000 in
theorem z28 : wZ (.classLink RX6 15 RX5) := ⟨List.mem_append_right _ (List.mem_of_getElem? (i := 105) (by decide +kernel)), Or.inl rfl⟩
set_option maxRecDepth 100000 in
theorem z29 : wZ (.fieldLink RX6 9 "MotionFloor$Place" "sort" "I") := ⟨List.mem_append_right _ (List.mem_of_getElem? (i := 107) (by decide +kernel)), Or.inl rfl⟩
set_option maxRecDepth 100000 in
theorem z30 : wZ (.methodLink RX6 3 objectInit) := ⟨List.mem_append_right _ (List.mem_of_getElem? (i := 104) (by decide +kernel)), Or.inl rfl⟩
set_option maxRecDepth 100000 in
theorem z31 : wZ (.code yX6_init cX6_init 1 none) := ⟨List.mem_append_right _ (List.mem_of_getElem? (i := 103) (by decide +kernel)), Or.inl rfl⟩
set_option maxRecDepth 100000 in
theorem z32 : wZ (.laysFinal "MotionFloor$Ledger" "MotionFloor$Ledger" "columns" "I") := ⟨List.mem_append_right _ (List.mem_of_getElem? (i := 137) (by decide +kernel)), Or.inl rfl⟩
set_option maxRecDepth 100000 in
theorem z33 : wZ (.laysFinal "MotionFloor$Ledger" "MotionFloor$Ledger" "most" "I") := ⟨List.mem_append_right _ (List.mem_of_getElem? (i := 139) (by decide +kernel)), Or.inl rfl⟩
set_option maxRecDepth 100000 in
theorem z34 : wZ (.lays "MotionFloor$Ledger" "MotionFloor$Ledger" "cells" "[I") := ⟨List.mem_append_right _ (List.mem_of_getElem? (i := 141) (by decide +kernel)), Or.inl rfl⟩
set_option maxRecDepth 100000 in
theorem z35 : wZ (.lays "MotionFloor$Ledger" "MotionFloor$Ledger" "size" "I") := ⟨List.mem_append_right _ (List.mem_of_getElem? (i := 143) (by decide +kernel)), Or.inl rfl⟩
theorem zcX3 : GoodIn lw_tbl wsX30 := by
  show GoodIn lw_tbl [.laysFinal "MotionFloor$Ledger" "MotionFloor$Ledger" "columns" "I", .laysFinal "MotionFloor$Ledger" "MotionFloor$Ledger" "most" "I", .lays "MotionFloor$Ledger" "MotionFloor$Ledger" "cells" "[I", .lays "MotionFloor$Ledger" "MotionFloor$Ledger" "size" "I"]
  exact wGc z32 (wGc z33 (wGc z34 (wGc z35 (wG0))))
set_option maxRecDepth 100000 in
theorem z36 : wZ (.fieldLink RX3 24 "MotionFloor$Ledger" "cells" "[I") := ⟨List.mem_append_right _ (List.mem_of_getElem? (i := 132) (by decide +kernel)), Or.inl rfl⟩
set_option maxRecDepth 100000 in
theorem z37 : wZ (.fieldLink RX3 21 "MotionFloor$Ledger" "most" "I") := ⟨List.mem_append_right _ (List.mem_of_getElem? (i := 131) (by decide +kernel)), Or.inl rfl⟩
set_option maxRecDepth 100000 in
theorem z38 : wZ (.fieldLink RX3 15 "MotionFloor$Ledger" "columns" "I") := ⟨List.mem_append_right _ (List.mem_of_getElem? (i := 130) (by decide +kernel)), Or.inl rfl⟩
set_option maxRecDepth 100000 in
theorem z39 : wZ (.code Lib.Math.max.name Lib.Math.max.code 2 (some .int)) := ⟨List.mem_append_right _ (List.mem_of_getElem? (i := 129) (by decide +kernel)), Or.inl rfl⟩
set_option maxRecDepth 100000 in
theorem z40 : wZ (.initialized "java/lang/Math") := ⟨List.mem_append_right _ (List.mem_of_getElem? (i := 7) (by decide +kernel)), Or.inl rfl⟩
set_option maxRecDepth 100000 in
theorem z41 : wZ (.static Lib.Math.max.name) := ⟨List.mem_append_right _ (List.mem_of_getElem? (i := 128) (by decide +kernel)), Or.inl rfl⟩
set_option maxRecDepth 100000 in
theorem z42 : wZ (.methodLink RX3 9 Lib.Math.max.name) := ⟨List.mem_append_right _ (List.mem_of_getElem? (i := 127) (by decide +kernel)), Or.inl rfl⟩
set_option maxRecDepth 100000 in
theorem z43 : wZ (.methodLink RX3 3 objectInit) := ⟨List.mem_append_right _ (List.mem_of_getElem? (i := 126) (by decide +kernel)), Or.inl rfl⟩
set_option maxRecDepth 100000 in
theorem z44 : wZ (.code yX3_init cX3_init 3 none) := ⟨List.mem_append_right _ (List.mem_of_getElem? (i := 125) (by decide +kernel)), Or.inl rfl⟩
set_option maxRecDepth 100000 in
theorem z45 : wZ (.laysFinal "MotionFloor$Text" "MotionFloor$Text" "words" "[I") := ⟨List.mem_append_right _ (List.mem_of_getElem? (i := 161) (by decide +kernel)), Or.inl rfl⟩
set_option maxRecDepth 100000 in
theorem z46 : wZ (.lays "MotionFloor$Text" "MotionFloor$Text" "size" "I") := ⟨List.mem_append_right _ (List.mem_of_getElem? (i := 163) (by decide +kernel)), Or.inl rfl⟩
theorem zcX9 : GoodIn lw_tbl wsX90 := by
  show GoodIn lw_tbl [.laysFinal "MotionFloor$Text" "MotionFloor$Text" "words" "[I", .lays "MotionFloor$Text" "MotionFloor$Text" "size" "I"]
  exact wGc z45 (wGc z46 (wG0))
set_option maxRecDepth 100000 in
theorem z47 : wZ (.fieldLink RX9 9 "MotionFloor$Text" "words" "[I") := ⟨List.mem_append_right _ (List.mem_of_getElem? (i := 152) (by decide +kernel)), Or.inl rfl⟩
set_option maxRecDepth 100000 in
theorem z48 : wZ (.methodLink RX9 3 objectInit) := ⟨List.mem_append_right _ (List.mem_of_getElem? (i := 151) (by decide +kernel)), Or.inl rfl⟩
set_option maxRecDepth 100000 in
theorem z49 : wZ (.code yX9_init cX9_init 1 none) := ⟨List.mem_append_right _ (List.mem_of_getElem? (i := 150) (by decide +kernel)), Or.inl rfl⟩
set_option maxRecDepth 100000 in
theorem z50 : wZ (.fieldLink RX2 44 "MotionFloor$House" "speaker" "I") := ⟨List.mem_append_right _ (List.mem_of_getElem? (i := 55) (by decide +kernel)), Or.inl rfl⟩
set_option maxRecDepth 100000 in
theorem z51 : wZ (.fieldLink RX2 41 "MotionFloor$House" "present" "I") := ⟨List.mem_append_right _ (List.mem_of_getElem? (i := 40) (by decide +kernel)), Or.inl rfl⟩
set_option maxRecDepth 100000 in
theorem z52 : wZ (.code yX2_empty cX2_empty 2 none) := ⟨List.mem_append_right _ (List.mem_of_getElem? (i := 173) (by decide +kernel)), Or.inl rfl⟩
set_option maxRecDepth 100000 in
theorem z53 : wZ (.code yJ7_fill_53178 cJ7_fill_53178 4 none) := ⟨List.mem_append_right _ (List.mem_of_getElem? (i := 176) (by decide +kernel)), Or.inl rfl⟩
set_option maxRecDepth 100000 in
theorem z54 : wZ (.initialized RJ7) := ⟨List.mem_append_right _ (List.mem_of_getElem? (i := 9) (by decide +kernel)), Or.inl rfl⟩
set_option maxRecDepth 100000 in
theorem z55 : wZ (.static yJ7_fill_53178) := ⟨List.mem_append_right _ (List.mem_of_getElem? (i := 175) (by decide +kernel)), Or.inl rfl⟩
set_option maxRecDepth 100000 in
theorem z56 : wZ (.methodLink RX2 35 yJ7_fill_53178) := ⟨List.mem_append_right _ (List.mem_of_getElem? (i := 174) (by decide +kernel)), Or.inl rfl⟩
set_option maxRecDepth 100000 in
theorem z57 : wZ (.initialized RX2) := ⟨List.mem_append_right _ (List.mem_of_getElem? (i := 3) (by decide +kernel)), Or.inl rfl⟩
set_option maxRecDepth 100000 in
theorem z58 : wZ (.selects RX2 yX2_empty yX2_empty) := ⟨List.mem_append_right _ (List.mem_of_getElem? (i := 172) (by decide +kernel)), Or.inl rfl⟩
set_option maxRecDepth 100000 in
theorem z59 : wZ (.instanceMethod yX2_empty) := ⟨List.mem_append_right _ (List.mem_of_getElem? (i := 171) (by decide +kernel)), Or.inl rfl⟩
set_option maxRecDepth 100000 in
theorem z60 : wZ (.methodLink RX2 32 yX2_empty) := ⟨List.mem_append_right _ (List.mem_of_getElem? (i := 170) (by decide +kernel)), Or.inl rfl⟩
set_option maxRecDepth 100000 in
theorem z61 : wZ (.fieldLink RX2 29 "MotionFloor$House" "chair" "I") := ⟨List.mem_append_right _ (List.mem_of_getElem? (i := 42) (by decide +kernel)), Or.inl rfl⟩
set_option maxRecDepth 100000 in
theorem z62 : wZ (.fieldLink RX2 26 "MotionFloor$House" "limit" "I") := ⟨List.mem_append_right _ (List.mem_of_getElem? (i := 49) (by decide +kernel)), Or.inl rfl⟩
set_option maxRecDepth 100000 in
theorem z63 : wZ (.fieldLink RX2 23 "MotionFloor$House" "quorum" "I") := ⟨List.mem_append_right _ (List.mem_of_getElem? (i := 46) (by decide +kernel)), Or.inl rfl⟩
set_option maxRecDepth 100000 in
theorem z64 : wZ (.fieldLink RX2 19 "MotionFloor$House" "seats" "I") := ⟨List.mem_append_right _ (List.mem_of_getElem? (i := 37) (by decide +kernel)), Or.inl rfl⟩
set_option maxRecDepth 100000 in
theorem z65 : wZ (.code yX2_begin cX2_begin 2 none) := ⟨List.mem_append_right _ (List.mem_of_getElem? (i := 169) (by decide +kernel)), Or.inl rfl⟩
set_option maxRecDepth 100000 in
theorem z66 : wZ (.laysFinal "MotionFloor$Assembly" "MotionFloor$Assembly" "house" "LMotionFloor$House;") := ⟨List.mem_append_right _ (List.mem_of_getElem? (i := 212) (by decide +kernel)), Or.inl rfl⟩
set_option maxRecDepth 100000 in
theorem z67 : wZ (.laysFinal "MotionFloor$Assembly" "MotionFloor$Assembly" "pending" "LMotionFloor$Pile;") := ⟨List.mem_append_right _ (List.mem_of_getElem? (i := 214) (by decide +kernel)), Or.inl rfl⟩
set_option maxRecDepth 100000 in
theorem z68 : wZ (.laysFinal "MotionFloor$Assembly" "MotionFloor$Assembly" "draft" "LMotionFloor$Place;") := ⟨List.mem_append_right _ (List.mem_of_getElem? (i := 216) (by decide +kernel)), Or.inl rfl⟩
set_option maxRecDepth 100000 in
theorem z69 : wZ (.laysFinal "MotionFloor$Assembly" "MotionFloor$Assembly" "desk" "[LMotionFloor$Place;") := ⟨List.mem_append_right _ (List.mem_of_getElem? (i := 218) (by decide +kernel)), Or.inl rfl⟩
set_option maxRecDepth 100000 in
theorem z70 : wZ (.laysFinal "MotionFloor$Assembly" "MotionFloor$Assembly" "minutes" "LMotionFloor$Ledger;") := ⟨List.mem_append_right _ (List.mem_of_getElem? (i := 220) (by decide +kernel)), Or.inl rfl⟩
set_option maxRecDepth 100000 in
theorem z71 : wZ (.laysFinal "MotionFloor$Assembly" "MotionFloor$Assembly" "results" "LMotionFloor$Ledger;") := ⟨List.mem_append_right _ (List.mem_of_getElem? (i := 222) (by decide +kernel)), Or.inl rfl⟩
set_option maxRecDepth 100000 in
theorem z72 : wZ (.laysFinal "MotionFloor$Assembly" "MotionFloor$Assembly" "adopted" "LMotionFloor$Text;") := ⟨List.mem_append_right _ (List.mem_of_getElem? (i := 224) (by decide +kernel)), Or.inl rfl⟩
set_option maxRecDepth 100000 in
theorem z73 : wZ (.lays "MotionFloor$Assembly" "MotionFloor$Assembly" "adoptions" "I") := ⟨List.mem_append_right _ (List.mem_of_getElem? (i := 226) (by decide +kernel)), Or.inl rfl⟩
set_option maxRecDepth 100000 in
theorem z74 : wZ (.lays "MotionFloor$Assembly" "MotionFloor$Assembly" "names" "I") := ⟨List.mem_append_right _ (List.mem_of_getElem? (i := 228) (by decide +kernel)), Or.inl rfl⟩
set_option maxRecDepth 100000 in
theorem z75 : wZ (.lays "MotionFloor$Assembly" "MotionFloor$Assembly" "reason" "I") := ⟨List.mem_append_right _ (List.mem_of_getElem? (i := 230) (by decide +kernel)), Or.inl rfl⟩
set_option maxRecDepth 100000 in
theorem z76 : wZ (.lays "MotionFloor$Assembly" "MotionFloor$Assembly" "spare" "LMotionFloor$Motion;") := ⟨List.mem_append_right _ (List.mem_of_getElem? (i := 232) (by decide +kernel)), Or.inl rfl⟩
theorem zcX0 : GoodIn lw_tbl wsX00 := by
  show GoodIn lw_tbl [.laysFinal "MotionFloor$Assembly" "MotionFloor$Assembly" "house" "LMotionFloor$House;", .laysFinal "MotionFloor$Assembly" "MotionFloor$Assembly" "pending" "LMotionFloor$Pile;", .laysFinal "MotionFloor$Assembly" "MotionFloor$Assembly" "draft" "LMotionFloor$Place;", .laysFinal "MotionFloor$Assembly" "MotionFloor$Assembly" "desk" "[LMotionFloor$Place;", .laysFinal "MotionFloor$Assembly" "MotionFloor$Assembly" "minutes" "LMotionFloor$Ledger;", .laysFinal "MotionFloor$Assembly" "MotionFloor$Assembly" "results" "LMotionFloor$Ledger;", .laysFinal "MotionFloor$Assembly" "MotionFloor$Assembly" "adopted" "LMotionFloor$Text;", .lays "MotionFloor$Assembly" "MotionFloor$Assembly" "adoptions" "I", .lays "MotionFloor$Assembly" "MotionFloor$Assembly" "names" "I", .lays "MotionFloor$Assembly" "MotionFloor$Assembly" "reason" "I", .lays "MotionFloor$Assembly" "MotionFloor$Assembly" "spare" "LMotionFloor$Motion;"]
  exact wGc z66 (wGc z67 (wGc z68 (wGc z69 (wGc z70 (wGc z71 (wGc z72 (wGc z73 (wGc z74 (wGc z75 (wGc z76 (wG0)))))))))))
set_option maxRecDepth 100000 in
theorem z77 : wZ (.selects RX2 yX2_begin yX2_begin) := ⟨List.mem_append_right _ (List.mem_of_getElem? (i := 168) (by decide +kernel)), Or.inl rfl⟩
set_option maxRecDepth 100000 in
theorem z78 : wZ (.instanceMethod yX2_begin) := ⟨List.mem_append_right _ (List.mem_of_getElem? (i := 167) (by decide +kernel)), Or.inl rfl⟩
set_option maxRecDepth 100000 in
theorem z79 : wZ (.methodLink RX0 55 yX2_begin) := ⟨List.mem_append_right _ (List.mem_of_getElem? (i := 166) (by decide +kernel)), Or.inl rfl⟩
set_option maxRecDepth 100000 in
theorem z80 : wZ (.fieldLink RX0 51 "MotionFloor$Assembly" "adopted" "LMotionFloor$Text;") := ⟨List.mem_append_right _ (List.mem_of_getElem? (i := 201) (by decide +kernel)), Or.inl rfl⟩
set_option maxRecDepth 100000 in
theorem z81 : wZ (.instanceMethod yX9_init) := ⟨List.mem_append_right _ (List.mem_of_getElem? (i := 149) (by decide +kernel)), Or.inl rfl⟩
set_option maxRecDepth 100000 in
theorem z82 : wZ (.initialized RX9) := ⟨List.mem_append_right _ (List.mem_of_getElem? (i := 8) (by decide +kernel)), Or.inl rfl⟩
set_option maxRecDepth 100000 in
theorem z83 : wZ (.instantiable RX9 2) := ⟨List.mem_append_right _ (List.mem_of_getElem? (i := 147) (by decide +kernel)), Or.inl rfl⟩
set_option maxRecDepth 100000 in
theorem z84 : wZ (.classLink RX0 48 RX9) := ⟨List.mem_append_right _ (List.mem_of_getElem? (i := 146) (by decide +kernel)), Or.inl rfl⟩
set_option maxRecDepth 100000 in
theorem z85 : wZ (.fieldLink RX0 45 "MotionFloor$Assembly" "results" "LMotionFloor$Ledger;") := ⟨List.mem_append_right _ (List.mem_of_getElem? (i := 198) (by decide +kernel)), Or.inl rfl⟩
set_option maxRecDepth 100000 in
theorem z86 : wZ (.fieldLink RX0 41 "MotionFloor$Assembly" "minutes" "LMotionFloor$Ledger;") := ⟨List.mem_append_right _ (List.mem_of_getElem? (i := 194) (by decide +kernel)), Or.inl rfl⟩
set_option maxRecDepth 100000 in
theorem z87 : wZ (.instanceMethod yX3_init) := ⟨List.mem_append_right _ (List.mem_of_getElem? (i := 124) (by decide +kernel)), Or.inl rfl⟩
set_option maxRecDepth 100000 in
theorem z88 : wZ (.methodLink RX0 38 yX3_init) := ⟨List.mem_append_right _ (List.mem_of_getElem? (i := 123) (by decide +kernel)), Or.inl rfl⟩
set_option maxRecDepth 100000 in
theorem z89 : wZ (.initialized RX3) := ⟨List.mem_append_right _ (List.mem_of_getElem? (i := 6) (by decide +kernel)), Or.inl rfl⟩
set_option maxRecDepth 100000 in
theorem z90 : wZ (.instantiable RX3 4) := ⟨List.mem_append_right _ (List.mem_of_getElem? (i := 122) (by decide +kernel)), Or.inl rfl⟩
set_option maxRecDepth 100000 in
theorem z91 : wZ (.classLink RX0 36 RX3) := ⟨List.mem_append_right _ (List.mem_of_getElem? (i := 121) (by decide +kernel)), Or.inl rfl⟩
set_option maxRecDepth 100000 in
theorem z92 : wZ (.fieldLink RX0 32 "MotionFloor$Assembly" "desk" "[LMotionFloor$Place;") := ⟨List.mem_append_right _ (List.mem_of_getElem? (i := 192) (by decide +kernel)), Or.inl rfl⟩
set_option maxRecDepth 100000 in
theorem z93 : wZ (.fieldLink RX0 28 "MotionFloor$Assembly" "draft" "LMotionFloor$Place;") := ⟨List.mem_append_right _ (List.mem_of_getElem? (i := 187) (by decide +kernel)), Or.inl rfl⟩
set_option maxRecDepth 100000 in
theorem z94 : wZ (.instanceMethod yX6_init) := ⟨List.mem_append_right _ (List.mem_of_getElem? (i := 102) (by decide +kernel)), Or.inl rfl⟩
set_option maxRecDepth 100000 in
theorem z95 : wZ (.initialized RX6) := ⟨List.mem_append_right _ (List.mem_of_getElem? (i := 5) (by decide +kernel)), Or.inl rfl⟩
set_option maxRecDepth 100000 in
theorem z96 : wZ (.instantiable RX6 2) := ⟨List.mem_append_right _ (List.mem_of_getElem? (i := 100) (by decide +kernel)), Or.inl rfl⟩
set_option maxRecDepth 100000 in
theorem z97 : wZ (.classLink RX0 25 RX6) := ⟨List.mem_append_right _ (List.mem_of_getElem? (i := 99) (by decide +kernel)), Or.inl rfl⟩
set_option maxRecDepth 100000 in
theorem z98 : wZ (.fieldLink RX0 21 "MotionFloor$Assembly" "pending" "LMotionFloor$Pile;") := ⟨List.mem_append_right _ (List.mem_of_getElem? (i := 182) (by decide +kernel)), Or.inl rfl⟩
set_option maxRecDepth 100000 in
theorem z99 : wZ (.classLink RX0 18 RX5) := ⟨List.mem_append_right _ (List.mem_of_getElem? (i := 78) (by decide +kernel)), Or.inl rfl⟩
set_option maxRecDepth 100000 in
theorem z100 : wZ (.fieldLink RX0 12 "MotionFloor$Assembly" "house" "LMotionFloor$House;") := ⟨List.mem_append_right _ (List.mem_of_getElem? (i := 177) (by decide +kernel)), Or.inl rfl⟩
set_option maxRecDepth 100000 in
theorem z101 : wZ (.instanceMethod yX2_init) := ⟨List.mem_append_right _ (List.mem_of_getElem? (i := 34) (by decide +kernel)), Or.inl rfl⟩
set_option maxRecDepth 100000 in
theorem z102 : wZ (.instantiable RX2 8) := ⟨List.mem_append_right _ (List.mem_of_getElem? (i := 32) (by decide +kernel)), Or.inl rfl⟩
set_option maxRecDepth 100000 in
theorem z103 : wZ (.classLink RX0 9 RX2) := ⟨List.mem_append_right _ (List.mem_of_getElem? (i := 31) (by decide +kernel)), Or.inl rfl⟩
set_option maxRecDepth 100000 in
theorem z104 : wZ (.methodLink RX0 3 objectInit) := ⟨List.mem_append_right _ (List.mem_of_getElem? (i := 30) (by decide +kernel)), Or.inl rfl⟩
set_option maxRecDepth 100000 in
theorem z105 : wZ (.code yX0_init cX0_init 2 none) := ⟨List.mem_append_right _ (List.mem_of_getElem? (i := 29) (by decide +kernel)), Or.inl rfl⟩
set_option maxRecDepth 100000 in
theorem z106 : wZ (.laysFinal "MotionFloor" "MotionFloor" "now" "LMotionFloor$Assembly;") := ⟨List.mem_append_right _ (List.mem_of_getElem? (i := 242) (by decide +kernel)), Or.inl rfl⟩
set_option maxRecDepth 100000 in
theorem z107 : wZ (.laysFinal "MotionFloor" "MotionFloor" "trial" "LMotionFloor$Assembly;") := ⟨List.mem_append_right _ (List.mem_of_getElem? (i := 244) (by decide +kernel)), Or.inl rfl⟩
set_option maxRecDepth 100000 in
theorem z108 : wZ (.lays "MotionFloor" "MotionFloor" "firstImage" "LMotionFloor$Assembly;") := ⟨List.mem_append_right _ (List.mem_of_getElem? (i := 246) (by decide +kernel)), Or.inl rfl⟩
set_option maxRecDepth 100000 in
theorem z109 : wZ (.lays "MotionFloor" "MotionFloor" "secondImage" "LMotionFloor$Assembly;") := ⟨List.mem_append_right _ (List.mem_of_getElem? (i := 248) (by decide +kernel)), Or.inl rfl⟩
set_option maxRecDepth 100000 in
theorem z110 : wZ (.laysFinal "MotionFloor" "MotionFloor" "row" "LMotionFloor$Ledger;") := ⟨List.mem_append_right _ (List.mem_of_getElem? (i := 250) (by decide +kernel)), Or.inl rfl⟩
theorem zcX10 : GoodIn lw_tbl wsX100 := by
  show GoodIn lw_tbl [.laysFinal "MotionFloor" "MotionFloor" "now" "LMotionFloor$Assembly;", .laysFinal "MotionFloor" "MotionFloor" "trial" "LMotionFloor$Assembly;", .lays "MotionFloor" "MotionFloor" "firstImage" "LMotionFloor$Assembly;", .lays "MotionFloor" "MotionFloor" "secondImage" "LMotionFloor$Assembly;", .laysFinal "MotionFloor" "MotionFloor" "row" "LMotionFloor$Ledger;"]
  exact wGc z106 (wGc z107 (wGc z108 (wGc z109 (wGc z110 (wG0)))))
set_option maxRecDepth 100000 in
theorem z111 : wZ (.fieldLink RX10 24 "MotionFloor" "row" "LMotionFloor$Ledger;") := ⟨List.mem_append_right _ (List.mem_of_getElem? (i := 241) (by decide +kernel)), Or.inl rfl⟩
set_option maxRecDepth 100000 in
theorem z112 : wZ (.methodLink RX10 21 yX3_init) := ⟨List.mem_append_right _ (List.mem_of_getElem? (i := 236) (by decide +kernel)), Or.inl rfl⟩
set_option maxRecDepth 100000 in
theorem z113 : wZ (.classLink RX10 19 RX3) := ⟨List.mem_append_right _ (List.mem_of_getElem? (i := 235) (by decide +kernel)), Or.inl rfl⟩
set_option maxRecDepth 100000 in
theorem z114 : wZ (.fieldLink RX10 16 "MotionFloor" "trial" "LMotionFloor$Assembly;") := ⟨List.mem_append_right _ (List.mem_of_getElem? (i := 238) (by decide +kernel)), Or.inl rfl⟩
set_option maxRecDepth 100000 in
theorem z115 : wZ (.fieldLink RX10 10 "MotionFloor" "now" "LMotionFloor$Assembly;") := ⟨List.mem_append_right _ (List.mem_of_getElem? (i := 237) (by decide +kernel)), Or.inl rfl⟩
set_option maxRecDepth 100000 in
theorem z116 : wZ (.instanceMethod yX0_init) := ⟨List.mem_append_right _ (List.mem_of_getElem? (i := 28) (by decide +kernel)), Or.inl rfl⟩
set_option maxRecDepth 100000 in
theorem z117 : wZ (.methodLink RX10 9 yX0_init) := ⟨List.mem_append_right _ (List.mem_of_getElem? (i := 27) (by decide +kernel)), Or.inl rfl⟩
set_option maxRecDepth 100000 in
theorem z118 : wZ (.initialized RX0) := ⟨List.mem_append_right _ (List.mem_of_getElem? (i := 2) (by decide +kernel)), Or.inl rfl⟩
set_option maxRecDepth 100000 in
theorem z119 : wZ (.instantiable RX0 11) := ⟨List.mem_append_right _ (List.mem_of_getElem? (i := 26) (by decide +kernel)), Or.inl rfl⟩
set_option maxRecDepth 100000 in
theorem z120 : wZ (.classLink RX10 7 RX0) := ⟨List.mem_append_right _ (List.mem_of_getElem? (i := 25) (by decide +kernel)), Or.inl rfl⟩
set_option maxRecDepth 100000 in
theorem z121 : wZ (.methodLink RX10 1 objectInit) := ⟨List.mem_append_right _ (List.mem_of_getElem? (i := 22) (by decide +kernel)), Or.inl rfl⟩
set_option maxRecDepth 100000 in
theorem z122 : wZ (.code yX10_init cX10_init 1 none) := ⟨List.mem_append_right _ (List.mem_of_getElem? (i := 21) (by decide +kernel)), Or.inl rfl⟩
set_option maxRecDepth 100000 in
theorem z123 : wZ (.fieldLink RX0 96 "MotionFloor$Pile" "size" "I") := ⟨List.mem_append_right _ (List.mem_of_getElem? (i := 89) (by decide +kernel)), Or.inl rfl⟩
set_option maxRecDepth 100000 in
theorem z124 : wZ (.code yX0_release cX0_release 3 none) := ⟨List.mem_append_right _ (List.mem_of_getElem? (i := 268) (by decide +kernel)), Or.inl rfl⟩
set_option maxRecDepth 100000 in
theorem z125 : wZ (.fieldLink RX0 84 "MotionFloor$Place" "sort" "I") := ⟨List.mem_append_right _ (List.mem_of_getElem? (i := 108) (by decide +kernel)), Or.inl rfl⟩
set_option maxRecDepth 100000 in
theorem z126 : wZ (.selects RX0 yX0_release yX0_release) := ⟨List.mem_append_right _ (List.mem_of_getElem? (i := 267) (by decide +kernel)), Or.inl rfl⟩
set_option maxRecDepth 100000 in
theorem z127 : wZ (.instanceMethod yX0_release) := ⟨List.mem_append_right _ (List.mem_of_getElem? (i := 266) (by decide +kernel)), Or.inl rfl⟩
set_option maxRecDepth 100000 in
theorem z128 : wZ (.methodLink RX0 115 yX0_release) := ⟨List.mem_append_right _ (List.mem_of_getElem? (i := 265) (by decide +kernel)), Or.inl rfl⟩
set_option maxRecDepth 100000 in
theorem z129 : wZ (.fieldLink RX0 87 "MotionFloor$Place" "pile" "LMotionFloor$Pile;") := ⟨List.mem_append_right _ (List.mem_of_getElem? (i := 112) (by decide +kernel)), Or.inl rfl⟩
set_option maxRecDepth 100000 in
theorem z130 : wZ (.code yX0_discard cX0_discard 2 none) := ⟨List.mem_append_right _ (List.mem_of_getElem? (i := 280) (by decide +kernel)), Or.inl rfl⟩
set_option maxRecDepth 100000 in
theorem z131 : wZ (.selects RX0 yX0_discard yX0_discard) := ⟨List.mem_append_right _ (List.mem_of_getElem? (i := 279) (by decide +kernel)), Or.inl rfl⟩
set_option maxRecDepth 100000 in
theorem z132 : wZ (.instanceMethod yX0_discard) := ⟨List.mem_append_right _ (List.mem_of_getElem? (i := 278) (by decide +kernel)), Or.inl rfl⟩
set_option maxRecDepth 100000 in
theorem z133 : wZ (.methodLink RX0 119 yX0_discard) := ⟨List.mem_append_right _ (List.mem_of_getElem? (i := 277) (by decide +kernel)), Or.inl rfl⟩
set_option maxRecDepth 100000 in
theorem z134 : wZ (.code yX0_clear cX0_clear 2 none) := ⟨List.mem_append_right _ (List.mem_of_getElem? (i := 264) (by decide +kernel)), Or.inl rfl⟩
set_option maxRecDepth 100000 in
theorem z135 : wZ (.fieldLink RX0 73 "MotionFloor$Assembly" "reason" "I") := ⟨List.mem_append_right _ (List.mem_of_getElem? (i := 209) (by decide +kernel)), Or.inl rfl⟩
set_option maxRecDepth 100000 in
theorem z136 : wZ (.fieldLink RX0 70 "MotionFloor$Assembly" "names" "I") := ⟨List.mem_append_right _ (List.mem_of_getElem? (i := 207) (by decide +kernel)), Or.inl rfl⟩
set_option maxRecDepth 100000 in
theorem z137 : wZ (.fieldLink RX0 67 "MotionFloor$Assembly" "adoptions" "I") := ⟨List.mem_append_right _ (List.mem_of_getElem? (i := 204) (by decide +kernel)), Or.inl rfl⟩
set_option maxRecDepth 100000 in
theorem z138 : wZ (.fieldLink RX0 66 "MotionFloor$Text" "size" "I") := ⟨List.mem_append_right _ (List.mem_of_getElem? (i := 155) (by decide +kernel)), Or.inl rfl⟩
set_option maxRecDepth 100000 in
theorem z139 : wZ (.fieldLink RX0 62 "MotionFloor$Ledger" "size" "I") := ⟨List.mem_append_right _ (List.mem_of_getElem? (i := 134) (by decide +kernel)), Or.inl rfl⟩
set_option maxRecDepth 100000 in
theorem z140 : wZ (.selects RX0 yX0_clear yX0_clear) := ⟨List.mem_append_right _ (List.mem_of_getElem? (i := 263) (by decide +kernel)), Or.inl rfl⟩
set_option maxRecDepth 100000 in
theorem z141 : wZ (.instanceMethod yX0_clear) := ⟨List.mem_append_right _ (List.mem_of_getElem? (i := 262) (by decide +kernel)), Or.inl rfl⟩
set_option maxRecDepth 100000 in
theorem z142 : wZ (.methodLink RX0 59 yX0_clear) := ⟨List.mem_append_right _ (List.mem_of_getElem? (i := 261) (by decide +kernel)), Or.inl rfl⟩
set_option maxRecDepth 100000 in
theorem z143 : wZ (.code yX0_begin cX0_begin 2 none) := ⟨List.mem_append_right _ (List.mem_of_getElem? (i := 260) (by decide +kernel)), Or.inl rfl⟩
set_option maxRecDepth 100000 in
theorem z144 : wZ (.selects RX0 yX0_begin yX0_begin) := ⟨List.mem_append_right _ (List.mem_of_getElem? (i := 259) (by decide +kernel)), Or.inl rfl⟩
set_option maxRecDepth 100000 in
theorem z145 : wZ (.instanceMethod yX0_begin) := ⟨List.mem_append_right _ (List.mem_of_getElem? (i := 258) (by decide +kernel)), Or.inl rfl⟩
set_option maxRecDepth 100000 in
theorem z146 : wZ (.methodLink RX10 28 yX0_begin) := ⟨List.mem_append_right _ (List.mem_of_getElem? (i := 257) (by decide +kernel)), Or.inl rfl⟩
set_option maxRecDepth 100000 in
theorem z147 : wZ (.code yX10_seats cX10_seats 2 (some .int)) := ⟨List.mem_append_right _ (List.mem_of_getElem? (i := 256) (by decide +kernel)), Or.inl rfl⟩
set_option maxRecDepth 100000 in
theorem z148 : wZ (.code yX2_has cX2_has 2 (some .boolean)) := ⟨List.mem_append_right _ (List.mem_of_getElem? (i := 301) (by decide +kernel)), Or.inl rfl⟩
set_option maxRecDepth 100000 in
theorem z149 : wZ (.code yX2_isThere cX2_isThere 2 (some .boolean)) := ⟨List.mem_append_right _ (List.mem_of_getElem? (i := 305) (by decide +kernel)), Or.inl rfl⟩
set_option maxRecDepth 100000 in
theorem z150 : wZ (.selects RX2 yX2_isThere yX2_isThere) := ⟨List.mem_append_right _ (List.mem_of_getElem? (i := 304) (by decide +kernel)), Or.inl rfl⟩
set_option maxRecDepth 100000 in
theorem z151 : wZ (.instanceMethod yX2_isThere) := ⟨List.mem_append_right _ (List.mem_of_getElem? (i := 303) (by decide +kernel)), Or.inl rfl⟩
set_option maxRecDepth 100000 in
theorem z152 : wZ (.methodLink RX8 82 yX2_isThere) := ⟨List.mem_append_right _ (List.mem_of_getElem? (i := 302) (by decide +kernel)), Or.inl rfl⟩
set_option maxRecDepth 100000 in
theorem z153 : wZ (.selects RX2 yX2_has yX2_has) := ⟨List.mem_append_right _ (List.mem_of_getElem? (i := 300) (by decide +kernel)), Or.inl rfl⟩
set_option maxRecDepth 100000 in
theorem z154 : wZ (.instanceMethod yX2_has) := ⟨List.mem_append_right _ (List.mem_of_getElem? (i := 299) (by decide +kernel)), Or.inl rfl⟩
set_option maxRecDepth 100000 in
theorem z155 : wZ (.methodLink RX8 114 yX2_has) := ⟨List.mem_append_right _ (List.mem_of_getElem? (i := 298) (by decide +kernel)), Or.inl rfl⟩
set_option maxRecDepth 100000 in
theorem z156 : wZ (.code yX8_againstThere cX8_againstThere 2 (some .int)) := ⟨List.mem_append_right _ (List.mem_of_getElem? (i := 297) (by decide +kernel)), Or.inl rfl⟩
set_option maxRecDepth 100000 in
theorem z157 : wZ (.initialized RX8) := ⟨List.mem_append_right _ (List.mem_of_getElem? (i := 12) (by decide +kernel)), Or.inl rfl⟩
set_option maxRecDepth 100000 in
theorem z158 : wZ (.static yX8_againstThere) := ⟨List.mem_append_right _ (List.mem_of_getElem? (i := 296) (by decide +kernel)), Or.inl rfl⟩
set_option maxRecDepth 100000 in
theorem z159 : wZ (.methodLink RX8 38 yX8_againstThere) := ⟨List.mem_append_right _ (List.mem_of_getElem? (i := 295) (by decide +kernel)), Or.inl rfl⟩
set_option maxRecDepth 100000 in
theorem z160 : wZ (.fieldLink RX8 34 "MotionFloor$Assembly" "house" "LMotionFloor$House;") := ⟨List.mem_append_right _ (List.mem_of_getElem? (i := 180) (by decide +kernel)), Or.inl rfl⟩
set_option maxRecDepth 100000 in
theorem z161 : wZ (.code yX8_againstOnFloor cX8_againstOnFloor 4 (some .int)) := ⟨List.mem_append_right _ (List.mem_of_getElem? (i := 294) (by decide +kernel)), Or.inl rfl⟩
set_option maxRecDepth 100000 in
theorem z162 : wZ (.fieldLink RX3 28 "MotionFloor$Ledger" "size" "I") := ⟨List.mem_append_right _ (List.mem_of_getElem? (i := 133) (by decide +kernel)), Or.inl rfl⟩
set_option maxRecDepth 100000 in
theorem z163 : wZ (.code yX3_isFull cX3_isFull 1 (some .boolean)) := ⟨List.mem_append_right _ (List.mem_of_getElem? (i := 433) (by decide +kernel)), Or.inl rfl⟩
set_option maxRecDepth 100000 in
theorem z164 : wZ (.selects RX3 yX3_isFull yX3_isFull) := ⟨List.mem_append_right _ (List.mem_of_getElem? (i := 432) (by decide +kernel)), Or.inl rfl⟩
set_option maxRecDepth 100000 in
theorem z165 : wZ (.instanceMethod yX3_isFull) := ⟨List.mem_append_right _ (List.mem_of_getElem? (i := 431) (by decide +kernel)), Or.inl rfl⟩
set_option maxRecDepth 100000 in
theorem z166 : wZ (.methodLink RX8 28 yX3_isFull) := ⟨List.mem_append_right _ (List.mem_of_getElem? (i := 430) (by decide +kernel)), Or.inl rfl⟩
set_option maxRecDepth 100000 in
theorem z167 : wZ (.fieldLink RX8 22 "MotionFloor$Assembly" "minutes" "LMotionFloor$Ledger;") := ⟨List.mem_append_right _ (List.mem_of_getElem? (i := 195) (by decide +kernel)), Or.inl rfl⟩
set_option maxRecDepth 100000 in
theorem z168 : wZ (.static yX8_againstOnFloor) := ⟨List.mem_append_right _ (List.mem_of_getElem? (i := 293) (by decide +kernel)), Or.inl rfl⟩
set_option maxRecDepth 100000 in
theorem z169 : wZ (.methodLink RX8 9 yX8_againstOnFloor) := ⟨List.mem_append_right _ (List.mem_of_getElem? (i := 292) (by decide +kernel)), Or.inl rfl⟩
set_option maxRecDepth 100000 in
theorem z170 : wZ (.code yX8_against cX8_against 7 (some .int)) := ⟨List.mem_append_right _ (List.mem_of_getElem? (i := 291) (by decide +kernel)), Or.inl rfl⟩
set_option maxRecDepth 100000 in
theorem z171 : wZ (.code yX5_at cX5_at 2 (some (.object "MotionFloor$Motion"))) := ⟨List.mem_append_right _ (List.mem_of_getElem? (i := 322) (by decide +kernel)), Or.inl rfl⟩
set_option maxRecDepth 100000 in
theorem z172 : wZ (.selects RX5 yX5_at yX5_at) := ⟨List.mem_append_right _ (List.mem_of_getElem? (i := 321) (by decide +kernel)), Or.inl rfl⟩
set_option maxRecDepth 100000 in
theorem z173 : wZ (.instanceMethod yX5_at) := ⟨List.mem_append_right _ (List.mem_of_getElem? (i := 320) (by decide +kernel)), Or.inl rfl⟩
set_option maxRecDepth 100000 in
theorem z174 : wZ (.methodLink RX5 21 yX5_at) := ⟨List.mem_append_right _ (List.mem_of_getElem? (i := 319) (by decide +kernel)), Or.inl rfl⟩
set_option maxRecDepth 100000 in
theorem z175 : wZ (.fieldLink RX5 17 "MotionFloor$Pile" "size" "I") := ⟨List.mem_append_right _ (List.mem_of_getElem? (i := 87) (by decide +kernel)), Or.inl rfl⟩
set_option maxRecDepth 100000 in
theorem z176 : wZ (.code yX5_top cX5_top 1 (some (.object "MotionFloor$Motion"))) := ⟨List.mem_append_right _ (List.mem_of_getElem? (i := 318) (by decide +kernel)), Or.inl rfl⟩
set_option maxRecDepth 100000 in
theorem z177 : wZ (.methodLink RX2 53 yX2_has) := ⟨List.mem_append_right _ (List.mem_of_getElem? (i := 442) (by decide +kernel)), Or.inl rfl⟩
set_option maxRecDepth 100000 in
theorem z178 : wZ (.code yX2_arrive cX2_arrive 2 (some .int)) := ⟨List.mem_append_right _ (List.mem_of_getElem? (i := 441) (by decide +kernel)), Or.inl rfl⟩
set_option maxRecDepth 100000 in
theorem z179 : wZ (.selects RX2 yX2_arrive yX2_arrive) := ⟨List.mem_append_right _ (List.mem_of_getElem? (i := 440) (by decide +kernel)), Or.inl rfl⟩
set_option maxRecDepth 100000 in
theorem z180 : wZ (.instanceMethod yX2_arrive) := ⟨List.mem_append_right _ (List.mem_of_getElem? (i := 439) (by decide +kernel)), Or.inl rfl⟩
set_option maxRecDepth 100000 in
theorem z181 : wZ (.methodLink RX1 25 yX2_arrive) := ⟨List.mem_append_right _ (List.mem_of_getElem? (i := 438) (by decide +kernel)), Or.inl rfl⟩
set_option maxRecDepth 100000 in
theorem z182 : wZ (.fieldLink RX1 21 "MotionFloor$Assembly" "house" "LMotionFloor$House;") := ⟨List.mem_append_right _ (List.mem_of_getElem? (i := 179) (by decide +kernel)), Or.inl rfl⟩
set_option maxRecDepth 100000 in
theorem z183 : wZ (.selects RX5 yX5_top yX5_top) := ⟨List.mem_append_right _ (List.mem_of_getElem? (i := 317) (by decide +kernel)), Or.inl rfl⟩
set_option maxRecDepth 100000 in
theorem z184 : wZ (.instanceMethod yX5_top) := ⟨List.mem_append_right _ (List.mem_of_getElem? (i := 316) (by decide +kernel)), Or.inl rfl⟩
set_option maxRecDepth 100000 in
theorem z185 : wZ (.methodLink RX1 15 yX5_top) := ⟨List.mem_append_right _ (List.mem_of_getElem? (i := 437) (by decide +kernel)), Or.inl rfl⟩
set_option maxRecDepth 100000 in
theorem z186 : wZ (.fieldLink RX1 9 "MotionFloor$Assembly" "pending" "LMotionFloor$Pile;") := ⟨List.mem_append_right _ (List.mem_of_getElem? (i := 183) (by decide +kernel)), Or.inl rfl⟩
set_option maxRecDepth 100000 in
theorem z187 : wZ (.code yX1_perform cX1_perform 7 (some .int)) := ⟨List.mem_append_right _ (List.mem_of_getElem? (i := 436) (by decide +kernel)), Or.inl rfl⟩
set_option maxRecDepth 100000 in
theorem z188 : wZ (.code yX3_makeRoom cX3_makeRoom 3 none) := ⟨List.mem_append_right _ (List.mem_of_getElem? (i := 673) (by decide +kernel)), Or.inl rfl⟩
set_option maxRecDepth 100000 in
theorem z189 : wZ (.selects RX3 yX3_makeRoom yX3_makeRoom) := ⟨List.mem_append_right _ (List.mem_of_getElem? (i := 672) (by decide +kernel)), Or.inl rfl⟩
set_option maxRecDepth 100000 in
theorem z190 : wZ (.instanceMethod yX3_makeRoom) := ⟨List.mem_append_right _ (List.mem_of_getElem? (i := 671) (by decide +kernel)), Or.inl rfl⟩
set_option maxRecDepth 100000 in
theorem z191 : wZ (.methodLink RX3 35 yX3_makeRoom) := ⟨List.mem_append_right _ (List.mem_of_getElem? (i := 670) (by decide +kernel)), Or.inl rfl⟩
set_option maxRecDepth 100000 in
theorem z192 : wZ (.methodLink RX3 31 yX3_isFull) := ⟨List.mem_append_right _ (List.mem_of_getElem? (i := 669) (by decide +kernel)), Or.inl rfl⟩
set_option maxRecDepth 100000 in
theorem z193 : wZ (.code yX3_open cX3_open 1 none) := ⟨List.mem_append_right _ (List.mem_of_getElem? (i := 668) (by decide +kernel)), Or.inl rfl⟩
set_option maxRecDepth 100000 in
theorem z194 : wZ (.code yX3_write cX3_write 4 none) := ⟨List.mem_append_right _ (List.mem_of_getElem? (i := 694) (by decide +kernel)), Or.inl rfl⟩
set_option maxRecDepth 100000 in
theorem z195 : wZ (.selects RX3 yX3_write yX3_write) := ⟨List.mem_append_right _ (List.mem_of_getElem? (i := 693) (by decide +kernel)), Or.inl rfl⟩
set_option maxRecDepth 100000 in
theorem z196 : wZ (.instanceMethod yX3_write) := ⟨List.mem_append_right _ (List.mem_of_getElem? (i := 692) (by decide +kernel)), Or.inl rfl⟩
set_option maxRecDepth 100000 in
theorem z197 : wZ (.methodLink RX0 169 yX3_write) := ⟨List.mem_append_right _ (List.mem_of_getElem? (i := 747) (by decide +kernel)), Or.inl rfl⟩
set_option maxRecDepth 100000 in
theorem z198 : wZ (.selects RX3 yX3_open yX3_open) := ⟨List.mem_append_right _ (List.mem_of_getElem? (i := 667) (by decide +kernel)), Or.inl rfl⟩
set_option maxRecDepth 100000 in
theorem z199 : wZ (.instanceMethod yX3_open) := ⟨List.mem_append_right _ (List.mem_of_getElem? (i := 666) (by decide +kernel)), Or.inl rfl⟩
set_option maxRecDepth 100000 in
theorem z200 : wZ (.methodLink RX0 166 yX3_open) := ⟨List.mem_append_right _ (List.mem_of_getElem? (i := 746) (by decide +kernel)), Or.inl rfl⟩
set_option maxRecDepth 100000 in
theorem z201 : wZ (.initialized RX1) := ⟨List.mem_append_right _ (List.mem_of_getElem? (i := 13) (by decide +kernel)), Or.inl rfl⟩
set_option maxRecDepth 100000 in
theorem z202 : wZ (.static yX1_perform) := ⟨List.mem_append_right _ (List.mem_of_getElem? (i := 435) (by decide +kernel)), Or.inl rfl⟩
set_option maxRecDepth 100000 in
theorem z203 : wZ (.methodLink RX0 161 yX1_perform) := ⟨List.mem_append_right _ (List.mem_of_getElem? (i := 434) (by decide +kernel)), Or.inl rfl⟩
set_option maxRecDepth 100000 in
theorem z204 : wZ (.static yX8_against) := ⟨List.mem_append_right _ (List.mem_of_getElem? (i := 290) (by decide +kernel)), Or.inl rfl⟩
set_option maxRecDepth 100000 in
theorem z205 : wZ (.methodLink RX0 155 yX8_against) := ⟨List.mem_append_right _ (List.mem_of_getElem? (i := 289) (by decide +kernel)), Or.inl rfl⟩
set_option maxRecDepth 100000 in
theorem z206 : wZ (.code yX0_enact cX0_enact 7 (some .int)) := ⟨List.mem_append_right _ (List.mem_of_getElem? (i := 288) (by decide +kernel)), Or.inl rfl⟩
set_option maxRecDepth 100000 in
theorem z207 : wZ (.selects RX0 yX0_enact yX0_enact) := ⟨List.mem_append_right _ (List.mem_of_getElem? (i := 287) (by decide +kernel)), Or.inl rfl⟩
set_option maxRecDepth 100000 in
theorem z208 : wZ (.instanceMethod yX0_enact) := ⟨List.mem_append_right _ (List.mem_of_getElem? (i := 286) (by decide +kernel)), Or.inl rfl⟩
set_option maxRecDepth 100000 in
theorem z209 : wZ (.methodLink RX10 32 yX0_enact) := ⟨List.mem_append_right _ (List.mem_of_getElem? (i := 285) (by decide +kernel)), Or.inl rfl⟩
set_option maxRecDepth 100000 in
theorem z210 : wZ (.code yX10_there cX10_there 2 (some .int)) := ⟨List.mem_append_right _ (List.mem_of_getElem? (i := 284) (by decide +kernel)), Or.inl rfl⟩
set_option maxRecDepth 100000 in
theorem z211 : wZ (.code yX8_againstAbsent cX8_againstAbsent 2 (some .int)) := ⟨List.mem_append_right _ (List.mem_of_getElem? (i := 308) (by decide +kernel)), Or.inl rfl⟩
set_option maxRecDepth 100000 in
theorem z212 : wZ (.static yX8_againstAbsent) := ⟨List.mem_append_right _ (List.mem_of_getElem? (i := 307) (by decide +kernel)), Or.inl rfl⟩
set_option maxRecDepth 100000 in
theorem z213 : wZ (.methodLink RX8 42 yX8_againstAbsent) := ⟨List.mem_append_right _ (List.mem_of_getElem? (i := 306) (by decide +kernel)), Or.inl rfl⟩
set_option maxRecDepth 100000 in
theorem z214 : wZ (.code yX10_gone cX10_gone 2 (some .int)) := ⟨List.mem_append_right _ (List.mem_of_getElem? (i := 751) (by decide +kernel)), Or.inl rfl⟩
set_option maxRecDepth 100000 in
theorem z215 : wZ (.code yX8_againstSetting cX8_againstSetting 2 (some .int)) := ⟨List.mem_append_right _ (List.mem_of_getElem? (i := 311) (by decide +kernel)), Or.inl rfl⟩
set_option maxRecDepth 100000 in
theorem z216 : wZ (.fieldLink RX8 117 "MotionFloor$Pile" "size" "I") := ⟨List.mem_append_right _ (List.mem_of_getElem? (i := 91) (by decide +kernel)), Or.inl rfl⟩
set_option maxRecDepth 100000 in
theorem z217 : wZ (.fieldLink RX8 86 "MotionFloor$Assembly" "pending" "LMotionFloor$Pile;") := ⟨List.mem_append_right _ (List.mem_of_getElem? (i := 185) (by decide +kernel)), Or.inl rfl⟩
set_option maxRecDepth 100000 in
theorem z218 : wZ (.static yX8_againstSetting) := ⟨List.mem_append_right _ (List.mem_of_getElem? (i := 310) (by decide +kernel)), Or.inl rfl⟩
set_option maxRecDepth 100000 in
theorem z219 : wZ (.methodLink RX8 45 yX8_againstSetting) := ⟨List.mem_append_right _ (List.mem_of_getElem? (i := 309) (by decide +kernel)), Or.inl rfl⟩
set_option maxRecDepth 100000 in
theorem z220 : wZ (.fieldLink RX1 34 "MotionFloor$House" "quorum" "I") := ⟨List.mem_append_right _ (List.mem_of_getElem? (i := 47) (by decide +kernel)), Or.inl rfl⟩
set_option maxRecDepth 100000 in
theorem z221 : wZ (.code yX10_quorum cX10_quorum 2 (some .int)) := ⟨List.mem_append_right _ (List.mem_of_getElem? (i := 755) (by decide +kernel)), Or.inl rfl⟩
set_option maxRecDepth 100000 in
theorem z222 : wZ (.code yX10_chair cX10_chair 2 (some .int)) := ⟨List.mem_append_right _ (List.mem_of_getElem? (i := 759) (by decide +kernel)), Or.inl rfl⟩
set_option maxRecDepth 100000 in
theorem z223 : wZ (.code yX2_replaceMajority cX2_replaceMajority 4 (some .int)) := ⟨List.mem_append_right _ (List.mem_of_getElem? (i := 460) (by decide +kernel)), Or.inl rfl⟩
set_option maxRecDepth 100000 in
theorem z224 : wZ (.selects RX2 yX2_replaceMajority yX2_replaceMajority) := ⟨List.mem_append_right _ (List.mem_of_getElem? (i := 459) (by decide +kernel)), Or.inl rfl⟩
set_option maxRecDepth 100000 in
theorem z225 : wZ (.instanceMethod yX2_replaceMajority) := ⟨List.mem_append_right _ (List.mem_of_getElem? (i := 458) (by decide +kernel)), Or.inl rfl⟩
set_option maxRecDepth 100000 in
theorem z226 : wZ (.methodLink RX1 41 yX2_replaceMajority) := ⟨List.mem_append_right _ (List.mem_of_getElem? (i := 457) (by decide +kernel)), Or.inl rfl⟩
set_option maxRecDepth 100000 in
theorem z227 : wZ (.code yX10_majority cX10_majority 3 (some .int)) := ⟨List.mem_append_right _ (List.mem_of_getElem? (i := 763) (by decide +kernel)), Or.inl rfl⟩
set_option maxRecDepth 100000 in
theorem z228 : wZ (.fieldLink RX1 45 "MotionFloor$House" "limit" "I") := ⟨List.mem_append_right _ (List.mem_of_getElem? (i := 50) (by decide +kernel)), Or.inl rfl⟩
set_option maxRecDepth 100000 in
theorem z229 : wZ (.code yX10_limit cX10_limit 2 (some .int)) := ⟨List.mem_append_right _ (List.mem_of_getElem? (i := 767) (by decide +kernel)), Or.inl rfl⟩
set_option maxRecDepth 100000 in
theorem z230 : wZ (.code yX8_againstFloor cX8_againstFloor 5 (some .int)) := ⟨List.mem_append_right _ (List.mem_of_getElem? (i := 314) (by decide +kernel)), Or.inl rfl⟩
set_option maxRecDepth 100000 in
theorem z231 : wZ (.static yX8_againstFloor) := ⟨List.mem_append_right _ (List.mem_of_getElem? (i := 313) (by decide +kernel)), Or.inl rfl⟩
set_option maxRecDepth 100000 in
theorem z232 : wZ (.methodLink RX8 49 yX8_againstFloor) := ⟨List.mem_append_right _ (List.mem_of_getElem? (i := 312) (by decide +kernel)), Or.inl rfl⟩
set_option maxRecDepth 100000 in
theorem z233 : wZ (.code yX10_floor cX10_floor 2 (some .int)) := ⟨List.mem_append_right _ (List.mem_of_getElem? (i := 771) (by decide +kernel)), Or.inl rfl⟩
set_option maxRecDepth 100000 in
theorem z234 : wZ (.fieldLink RX8 53 "MotionFloor$House" "speaker" "I") := ⟨List.mem_append_right _ (List.mem_of_getElem? (i := 56) (by decide +kernel)), Or.inl rfl⟩
set_option maxRecDepth 100000 in
theorem z235 : wZ (.code yX10_cede cX10_cede 1 (some .int)) := ⟨List.mem_append_right _ (List.mem_of_getElem? (i := 775) (by decide +kernel)), Or.inl rfl⟩
set_option maxRecDepth 100000 in
theorem z236 : wZ (.methodLink RX8 90 yX5_top) := ⟨List.mem_append_right _ (List.mem_of_getElem? (i := 315) (by decide +kernel)), Or.inl rfl⟩
set_option maxRecDepth 100000 in
theorem z237 : wZ (.code yX8_againstDebate cX8_againstDebate 3 (some .int)) := ⟨List.mem_append_right _ (List.mem_of_getElem? (i := 325) (by decide +kernel)), Or.inl rfl⟩
set_option maxRecDepth 100000 in
theorem z238 : wZ (.static yX8_againstDebate) := ⟨List.mem_append_right _ (List.mem_of_getElem? (i := 324) (by decide +kernel)), Or.inl rfl⟩
set_option maxRecDepth 100000 in
theorem z239 : wZ (.methodLink RX8 59 yX8_againstDebate) := ⟨List.mem_append_right _ (List.mem_of_getElem? (i := 323) (by decide +kernel)), Or.inl rfl⟩
set_option maxRecDepth 100000 in
theorem z240 : wZ (.code yX10_debate cX10_debate 2 (some .int)) := ⟨List.mem_append_right _ (List.mem_of_getElem? (i := 779) (by decide +kernel)), Or.inl rfl⟩
set_option maxRecDepth 100000 in
theorem z241 : wZ (.code yX8_againstOnPaper cX8_againstOnPaper 6 (some .int)) := ⟨List.mem_append_right _ (List.mem_of_getElem? (i := 332) (by decide +kernel)), Or.inl rfl⟩
set_option maxRecDepth 100000 in
theorem z242 : wZ (.static yX8_againstOnPaper) := ⟨List.mem_append_right _ (List.mem_of_getElem? (i := 331) (by decide +kernel)), Or.inl rfl⟩
set_option maxRecDepth 100000 in
theorem z243 : wZ (.methodLink RX8 15 yX8_againstOnPaper) := ⟨List.mem_append_right _ (List.mem_of_getElem? (i := 330) (by decide +kernel)), Or.inl rfl⟩
set_option maxRecDepth 100000 in
theorem z244 : wZ (.lays "MotionFloor$Motion" "MotionFloor$Motion" "name" "I") := ⟨List.mem_append_right _ (List.mem_of_getElem? (i := 542) (by decide +kernel)), Or.inl rfl⟩
set_option maxRecDepth 100000 in
theorem z245 : wZ (.lays "MotionFloor$Motion" "MotionFloor$Motion" "subject" "I") := ⟨List.mem_append_right _ (List.mem_of_getElem? (i := 544) (by decide +kernel)), Or.inl rfl⟩
set_option maxRecDepth 100000 in
theorem z246 : wZ (.lays "MotionFloor$Motion" "MotionFloor$Motion" "kind" "I") := ⟨List.mem_append_right _ (List.mem_of_getElem? (i := 546) (by decide +kernel)), Or.inl rfl⟩
set_option maxRecDepth 100000 in
theorem z247 : wZ (.lays "MotionFloor$Motion" "MotionFloor$Motion" "mover" "I") := ⟨List.mem_append_right _ (List.mem_of_getElem? (i := 548) (by decide +kernel)), Or.inl rfl⟩
set_option maxRecDepth 100000 in
theorem z248 : wZ (.lays "MotionFloor$Motion" "MotionFloor$Motion" "seconder" "I") := ⟨List.mem_append_right _ (List.mem_of_getElem? (i := 550) (by decide +kernel)), Or.inl rfl⟩
set_option maxRecDepth 100000 in
theorem z249 : wZ (.lays "MotionFloor$Motion" "MotionFloor$Motion" "floors" "I") := ⟨List.mem_append_right _ (List.mem_of_getElem? (i := 552) (by decide +kernel)), Or.inl rfl⟩
set_option maxRecDepth 100000 in
theorem z250 : wZ (.lays "MotionFloor$Motion" "MotionFloor$Motion" "speeches" "I") := ⟨List.mem_append_right _ (List.mem_of_getElem? (i := 554) (by decide +kernel)), Or.inl rfl⟩
set_option maxRecDepth 100000 in
theorem z251 : wZ (.lays "MotionFloor$Motion" "MotionFloor$Motion" "closed" "Z") := ⟨List.mem_append_right _ (List.mem_of_getElem? (i := 556) (by decide +kernel)), Or.inl rfl⟩
set_option maxRecDepth 100000 in
theorem z252 : wZ (.lays "MotionFloor$Motion" "MotionFloor$Motion" "from" "I") := ⟨List.mem_append_right _ (List.mem_of_getElem? (i := 558) (by decide +kernel)), Or.inl rfl⟩
set_option maxRecDepth 100000 in
theorem z253 : wZ (.lays "MotionFloor$Motion" "MotionFloor$Motion" "to" "I") := ⟨List.mem_append_right _ (List.mem_of_getElem? (i := 560) (by decide +kernel)), Or.inl rfl⟩
set_option maxRecDepth 100000 in
theorem z254 : wZ (.lays "MotionFloor$Motion" "MotionFloor$Motion" "laid" "Z") := ⟨List.mem_append_right _ (List.mem_of_getElem? (i := 562) (by decide +kernel)), Or.inl rfl⟩
set_option maxRecDepth 100000 in
theorem z255 : wZ (.lays "MotionFloor$Motion" "MotionFloor$Motion" "outOfOrder" "Z") := ⟨List.mem_append_right _ (List.mem_of_getElem? (i := 564) (by decide +kernel)), Or.inl rfl⟩
set_option maxRecDepth 100000 in
theorem z256 : wZ (.laysFinal "MotionFloor$Motion" "MotionFloor$Motion" "text" "LMotionFloor$Text;") := ⟨List.mem_append_right _ (List.mem_of_getElem? (i := 566) (by decide +kernel)), Or.inl rfl⟩
set_option maxRecDepth 100000 in
theorem z257 : wZ (.laysFinal "MotionFloor$Motion" "MotionFloor$Motion" "votes" "[B") := ⟨List.mem_append_right _ (List.mem_of_getElem? (i := 568) (by decide +kernel)), Or.inl rfl⟩
set_option maxRecDepth 100000 in
theorem z258 : wZ (.lays "MotionFloor$Motion" "MotionFloor$Motion" "voters" "I") := ⟨List.mem_append_right _ (List.mem_of_getElem? (i := 570) (by decide +kernel)), Or.inl rfl⟩
set_option maxRecDepth 100000 in
theorem z259 : wZ (.lays "MotionFloor$Motion" "MotionFloor$Motion" "nextSpare" "LMotionFloor$Motion;") := ⟨List.mem_append_right _ (List.mem_of_getElem? (i := 572) (by decide +kernel)), Or.inl rfl⟩
theorem zcX4 : GoodIn lw_tbl wsX40 := by
  show GoodIn lw_tbl [.lays "MotionFloor$Motion" "MotionFloor$Motion" "name" "I", .lays "MotionFloor$Motion" "MotionFloor$Motion" "subject" "I", .lays "MotionFloor$Motion" "MotionFloor$Motion" "kind" "I", .lays "MotionFloor$Motion" "MotionFloor$Motion" "mover" "I", .lays "MotionFloor$Motion" "MotionFloor$Motion" "seconder" "I", .lays "MotionFloor$Motion" "MotionFloor$Motion" "floors" "I", .lays "MotionFloor$Motion" "MotionFloor$Motion" "speeches" "I", .lays "MotionFloor$Motion" "MotionFloor$Motion" "closed" "Z", .lays "MotionFloor$Motion" "MotionFloor$Motion" "from" "I", .lays "MotionFloor$Motion" "MotionFloor$Motion" "to" "I", .lays "MotionFloor$Motion" "MotionFloor$Motion" "laid" "Z", .lays "MotionFloor$Motion" "MotionFloor$Motion" "outOfOrder" "Z", .laysFinal "MotionFloor$Motion" "MotionFloor$Motion" "text" "LMotionFloor$Text;", .laysFinal "MotionFloor$Motion" "MotionFloor$Motion" "votes" "[B", .lays "MotionFloor$Motion" "MotionFloor$Motion" "voters" "I", .lays "MotionFloor$Motion" "MotionFloor$Motion" "nextSpare" "LMotionFloor$Motion;"]
  exact wGc z244 (wGc z245 (wGc z246 (wGc z247 (wGc z248 (wGc z249 (wGc z250 (wGc z251 (wGc z252 (wGc z253 (wGc z254 (wGc z255 (wGc z256 (wGc z257 (wGc z258 (wGc z259 (wG0))))))))))))))))
set_option maxRecDepth 100000 in
theorem z260 : wZ (.fieldLink RX4 18 "MotionFloor$Motion" "votes" "[B") := ⟨List.mem_append_right _ (List.mem_of_getElem? (i := 539) (by decide +kernel)), Or.inl rfl⟩
set_option maxRecDepth 100000 in
theorem z261 : wZ (.arrayClass .byte) := ⟨List.mem_append_right _ (List.mem_of_getElem? (i := 575) (by decide +kernel)), Or.inr ⟨_, rfl⟩⟩
set_option maxRecDepth 100000 in
theorem z262 : wZ (.fieldLink RX4 12 "MotionFloor$Motion" "text" "LMotionFloor$Text;") := ⟨List.mem_append_right _ (List.mem_of_getElem? (i := 533) (by decide +kernel)), Or.inl rfl⟩
set_option maxRecDepth 100000 in
theorem z263 : wZ (.classLink RX4 9 RX9) := ⟨List.mem_append_right _ (List.mem_of_getElem? (i := 484) (by decide +kernel)), Or.inl rfl⟩
set_option maxRecDepth 100000 in
theorem z264 : wZ (.methodLink RX4 3 objectInit) := ⟨List.mem_append_right _ (List.mem_of_getElem? (i := 483) (by decide +kernel)), Or.inl rfl⟩
set_option maxRecDepth 100000 in
theorem z265 : wZ (.code yX4_init cX4_init 1 none) := ⟨List.mem_append_right _ (List.mem_of_getElem? (i := 482) (by decide +kernel)), Or.inl rfl⟩
set_option maxRecDepth 100000 in
theorem z266 : wZ (.fieldLink RX4 67 "MotionFloor$Motion" "voters" "I") := ⟨List.mem_append_right _ (List.mem_of_getElem? (i := 540) (by decide +kernel)), Or.inl rfl⟩
set_option maxRecDepth 100000 in
theorem z267 : wZ (.fieldLink RX4 64 "MotionFloor$Motion" "outOfOrder" "Z") := ⟨List.mem_append_right _ (List.mem_of_getElem? (i := 530) (by decide +kernel)), Or.inl rfl⟩
set_option maxRecDepth 100000 in
theorem z268 : wZ (.fieldLink RX4 61 "MotionFloor$Motion" "laid" "Z") := ⟨List.mem_append_right _ (List.mem_of_getElem? (i := 526) (by decide +kernel)), Or.inl rfl⟩
set_option maxRecDepth 100000 in
theorem z269 : wZ (.fieldLink RX4 58 "MotionFloor$Motion" "to" "I") := ⟨List.mem_append_right _ (List.mem_of_getElem? (i := 521) (by decide +kernel)), Or.inl rfl⟩
set_option maxRecDepth 100000 in
theorem z270 : wZ (.fieldLink RX4 55 "MotionFloor$Motion" "from" "I") := ⟨List.mem_append_right _ (List.mem_of_getElem? (i := 516) (by decide +kernel)), Or.inl rfl⟩
set_option maxRecDepth 100000 in
theorem z271 : wZ (.fieldLink RX4 51 "MotionFloor$Motion" "closed" "Z") := ⟨List.mem_append_right _ (List.mem_of_getElem? (i := 513) (by decide +kernel)), Or.inl rfl⟩
set_option maxRecDepth 100000 in
theorem z272 : wZ (.fieldLink RX4 48 "MotionFloor$Motion" "speeches" "I") := ⟨List.mem_append_right _ (List.mem_of_getElem? (i := 511) (by decide +kernel)), Or.inl rfl⟩
set_option maxRecDepth 100000 in
theorem z273 : wZ (.fieldLink RX4 45 "MotionFloor$Motion" "floors" "I") := ⟨List.mem_append_right _ (List.mem_of_getElem? (i := 509) (by decide +kernel)), Or.inl rfl⟩
set_option maxRecDepth 100000 in
theorem z274 : wZ (.fieldLink RX4 42 "MotionFloor$Motion" "seconder" "I") := ⟨List.mem_append_right _ (List.mem_of_getElem? (i := 505) (by decide +kernel)), Or.inl rfl⟩
set_option maxRecDepth 100000 in
theorem z275 : wZ (.fieldLink RX4 39 "MotionFloor$Motion" "mover" "I") := ⟨List.mem_append_right _ (List.mem_of_getElem? (i := 500) (by decide +kernel)), Or.inl rfl⟩
set_option maxRecDepth 100000 in
theorem z276 : wZ (.fieldLink RX4 36 "MotionFloor$Motion" "kind" "I") := ⟨List.mem_append_right _ (List.mem_of_getElem? (i := 495) (by decide +kernel)), Or.inl rfl⟩
set_option maxRecDepth 100000 in
theorem z277 : wZ (.fieldLink RX4 33 "MotionFloor$Motion" "subject" "I") := ⟨List.mem_append_right _ (List.mem_of_getElem? (i := 490) (by decide +kernel)), Or.inl rfl⟩
set_option maxRecDepth 100000 in
theorem z278 : wZ (.fieldLink RX4 30 "MotionFloor$Motion" "name" "I") := ⟨List.mem_append_right _ (List.mem_of_getElem? (i := 486) (by decide +kernel)), Or.inl rfl⟩
set_option maxRecDepth 100000 in
theorem z279 : wZ (.code yX4_keepTextAs cX4_keepTextAs 2 none) := ⟨List.mem_append_right _ (List.mem_of_getElem? (i := 583) (by decide +kernel)), Or.inl rfl⟩
set_option maxRecDepth 100000 in
theorem z280 : wZ (.fieldLink RX4 26 "MotionFloor$Text" "size" "I") := ⟨List.mem_append_right _ (List.mem_of_getElem? (i := 154) (by decide +kernel)), Or.inl rfl⟩
set_option maxRecDepth 100000 in
theorem z281 : wZ (.initialized RX4) := ⟨List.mem_append_right _ (List.mem_of_getElem? (i := 14) (by decide +kernel)), Or.inl rfl⟩
set_option maxRecDepth 100000 in
theorem z282 : wZ (.selects RX4 yX4_keepTextAs yX4_keepTextAs) := ⟨List.mem_append_right _ (List.mem_of_getElem? (i := 582) (by decide +kernel)), Or.inl rfl⟩
set_option maxRecDepth 100000 in
theorem z283 : wZ (.instanceMethod yX4_keepTextAs) := ⟨List.mem_append_right _ (List.mem_of_getElem? (i := 581) (by decide +kernel)), Or.inl rfl⟩
set_option maxRecDepth 100000 in
theorem z284 : wZ (.methodLink RX4 22 yX4_keepTextAs) := ⟨List.mem_append_right _ (List.mem_of_getElem? (i := 580) (by decide +kernel)), Or.inl rfl⟩
set_option maxRecDepth 100000 in
theorem z285 : wZ (.code yX4_renew cX4_renew 2 none) := ⟨List.mem_append_right _ (List.mem_of_getElem? (i := 579) (by decide +kernel)), Or.inl rfl⟩
set_option maxRecDepth 100000 in
theorem z286 : wZ (.selects RX4 yX4_renew yX4_renew) := ⟨List.mem_append_right _ (List.mem_of_getElem? (i := 578) (by decide +kernel)), Or.inl rfl⟩
set_option maxRecDepth 100000 in
theorem z287 : wZ (.instanceMethod yX4_renew) := ⟨List.mem_append_right _ (List.mem_of_getElem? (i := 577) (by decide +kernel)), Or.inl rfl⟩
set_option maxRecDepth 100000 in
theorem z288 : wZ (.methodLink RX0 138 yX4_renew) := ⟨List.mem_append_right _ (List.mem_of_getElem? (i := 576) (by decide +kernel)), Or.inl rfl⟩
set_option maxRecDepth 100000 in
theorem z289 : wZ (.instanceMethod yX4_init) := ⟨List.mem_append_right _ (List.mem_of_getElem? (i := 481) (by decide +kernel)), Or.inl rfl⟩
set_option maxRecDepth 100000 in
theorem z290 : wZ (.instantiable RX4 16) := ⟨List.mem_append_right _ (List.mem_of_getElem? (i := 479) (by decide +kernel)), Or.inl rfl⟩
set_option maxRecDepth 100000 in
theorem z291 : wZ (.classLink RX0 102 RX4) := ⟨List.mem_append_right _ (List.mem_of_getElem? (i := 478) (by decide +kernel)), Or.inl rfl⟩
set_option maxRecDepth 100000 in
theorem z292 : wZ (.fieldLink RX0 130 "MotionFloor$Assembly" "spare" "LMotionFloor$Motion;") := ⟨List.mem_append_right _ (List.mem_of_getElem? (i := 211) (by decide +kernel)), Or.inl rfl⟩
set_option maxRecDepth 100000 in
theorem z293 : wZ (.code yX0_newMotion cX0_newMotion 3 (some (.object "MotionFloor$Motion"))) := ⟨List.mem_append_right _ (List.mem_of_getElem? (i := 477) (by decide +kernel)), Or.inl rfl⟩
set_option maxRecDepth 100000 in
theorem z294 : wZ (.code yX5_put cX5_put 2 none) := ⟨List.mem_append_right _ (List.mem_of_getElem? (i := 594) (by decide +kernel)), Or.inl rfl⟩
set_option maxRecDepth 100000 in
theorem z295 : wZ (.selects RX5 yX5_put yX5_put) := ⟨List.mem_append_right _ (List.mem_of_getElem? (i := 593) (by decide +kernel)), Or.inl rfl⟩
set_option maxRecDepth 100000 in
theorem z296 : wZ (.instanceMethod yX5_put) := ⟨List.mem_append_right _ (List.mem_of_getElem? (i := 592) (by decide +kernel)), Or.inl rfl⟩
set_option maxRecDepth 100000 in
theorem z297 : wZ (.methodLink RX6 41 yX5_put) := ⟨List.mem_append_right _ (List.mem_of_getElem? (i := 591) (by decide +kernel)), Or.inl rfl⟩
set_option maxRecDepth 100000 in
theorem z298 : wZ (.code yX6_hold cX6_hold 3 none) := ⟨List.mem_append_right _ (List.mem_of_getElem? (i := 590) (by decide +kernel)), Or.inl rfl⟩
set_option maxRecDepth 100000 in
theorem z299 : wZ (.selects RX6 yX6_hold yX6_hold) := ⟨List.mem_append_right _ (List.mem_of_getElem? (i := 589) (by decide +kernel)), Or.inl rfl⟩
set_option maxRecDepth 100000 in
theorem z300 : wZ (.instanceMethod yX6_hold) := ⟨List.mem_append_right _ (List.mem_of_getElem? (i := 588) (by decide +kernel)), Or.inl rfl⟩
set_option maxRecDepth 100000 in
theorem z301 : wZ (.methodLink RX1 133 yX6_hold) := ⟨List.mem_append_right _ (List.mem_of_getElem? (i := 587) (by decide +kernel)), Or.inl rfl⟩
set_option maxRecDepth 100000 in
theorem z302 : wZ (.selects RX0 yX0_newMotion yX0_newMotion) := ⟨List.mem_append_right _ (List.mem_of_getElem? (i := 476) (by decide +kernel)), Or.inl rfl⟩
set_option maxRecDepth 100000 in
theorem z303 : wZ (.instanceMethod yX0_newMotion) := ⟨List.mem_append_right _ (List.mem_of_getElem? (i := 475) (by decide +kernel)), Or.inl rfl⟩
set_option maxRecDepth 100000 in
theorem z304 : wZ (.methodLink RX1 129 yX0_newMotion) := ⟨List.mem_append_right _ (List.mem_of_getElem? (i := 474) (by decide +kernel)), Or.inl rfl⟩
set_option maxRecDepth 100000 in
theorem z305 : wZ (.methodLink RX1 125 yX0_discard) := ⟨List.mem_append_right _ (List.mem_of_getElem? (i := 473) (by decide +kernel)), Or.inl rfl⟩
set_option maxRecDepth 100000 in
theorem z306 : wZ (.fieldLink RX1 121 "MotionFloor$Assembly" "draft" "LMotionFloor$Place;") := ⟨List.mem_append_right _ (List.mem_of_getElem? (i := 188) (by decide +kernel)), Or.inl rfl⟩
set_option maxRecDepth 100000 in
theorem z307 : wZ (.code yX1_begin cX1_begin 2 (some .int)) := ⟨List.mem_append_right _ (List.mem_of_getElem? (i := 472) (by decide +kernel)), Or.inl rfl⟩
set_option maxRecDepth 100000 in
theorem z308 : wZ (.static yX1_begin) := ⟨List.mem_append_right _ (List.mem_of_getElem? (i := 471) (by decide +kernel)), Or.inl rfl⟩
set_option maxRecDepth 100000 in
theorem z309 : wZ (.methodLink RX1 62 yX1_begin) := ⟨List.mem_append_right _ (List.mem_of_getElem? (i := 470) (by decide +kernel)), Or.inl rfl⟩
set_option maxRecDepth 100000 in
theorem z310 : wZ (.code yX10_draft cX10_draft 2 (some .int)) := ⟨List.mem_append_right _ (List.mem_of_getElem? (i := 783) (by decide +kernel)), Or.inl rfl⟩
set_option maxRecDepth 100000 in
theorem z311 : wZ (.code yX6_motion cX6_motion 1 (some (.object "MotionFloor$Motion"))) := ⟨List.mem_append_right _ (List.mem_of_getElem? (i := 339) (by decide +kernel)), Or.inl rfl⟩
set_option maxRecDepth 100000 in
theorem z312 : wZ (.selects RX6 yX6_motion yX6_motion) := ⟨List.mem_append_right _ (List.mem_of_getElem? (i := 338) (by decide +kernel)), Or.inl rfl⟩
set_option maxRecDepth 100000 in
theorem z313 : wZ (.instanceMethod yX6_motion) := ⟨List.mem_append_right _ (List.mem_of_getElem? (i := 337) (by decide +kernel)), Or.inl rfl⟩
set_option maxRecDepth 100000 in
theorem z314 : wZ (.methodLink RX8 145 yX6_motion) := ⟨List.mem_append_right _ (List.mem_of_getElem? (i := 336) (by decide +kernel)), Or.inl rfl⟩
set_option maxRecDepth 100000 in
theorem z315 : wZ (.fieldLink RX8 141 "MotionFloor$Assembly" "draft" "LMotionFloor$Place;") := ⟨List.mem_append_right _ (List.mem_of_getElem? (i := 190) (by decide +kernel)), Or.inl rfl⟩
set_option maxRecDepth 100000 in
theorem z316 : wZ (.code yX8_againstSpan cX8_againstSpan 4 (some .int)) := ⟨List.mem_append_right _ (List.mem_of_getElem? (i := 335) (by decide +kernel)), Or.inl rfl⟩
set_option maxRecDepth 100000 in
theorem z317 : wZ (.static yX8_againstSpan) := ⟨List.mem_append_right _ (List.mem_of_getElem? (i := 334) (by decide +kernel)), Or.inl rfl⟩
set_option maxRecDepth 100000 in
theorem z318 : wZ (.methodLink RX8 62 yX8_againstSpan) := ⟨List.mem_append_right _ (List.mem_of_getElem? (i := 333) (by decide +kernel)), Or.inl rfl⟩
set_option maxRecDepth 100000 in
theorem z319 : wZ (.code yX10_span cX10_span 3 (some .int)) := ⟨List.mem_append_right _ (List.mem_of_getElem? (i := 787) (by decide +kernel)), Or.inl rfl⟩
set_option maxRecDepth 100000 in
theorem z320 : wZ (.code yX8_againstWord cX8_againstWord 7 (some .int)) := ⟨List.mem_append_right _ (List.mem_of_getElem? (i := 347) (by decide +kernel)), Or.inl rfl⟩
set_option maxRecDepth 100000 in
theorem z321 : wZ (.static yX8_againstWord) := ⟨List.mem_append_right _ (List.mem_of_getElem? (i := 346) (by decide +kernel)), Or.inl rfl⟩
set_option maxRecDepth 100000 in
theorem z322 : wZ (.methodLink RX8 66 yX8_againstWord) := ⟨List.mem_append_right _ (List.mem_of_getElem? (i := 345) (by decide +kernel)), Or.inl rfl⟩
set_option maxRecDepth 100000 in
theorem z323 : wZ (.code yX10_word cX10_word 5 (some .int)) := ⟨List.mem_append_right _ (List.mem_of_getElem? (i := 791) (by decide +kernel)), Or.inl rfl⟩
set_option maxRecDepth 100000 in
theorem z324 : wZ (.code yX0_placeAt cX0_placeAt 2 (some (.object "MotionFloor$Place"))) := ⟨List.mem_append_right _ (List.mem_of_getElem? (i := 357) (by decide +kernel)), Or.inl rfl⟩
set_option maxRecDepth 100000 in
theorem z325 : wZ (.code yX6_isEmpty cX6_isEmpty 1 (some .boolean)) := ⟨List.mem_append_right _ (List.mem_of_getElem? (i := 361) (by decide +kernel)), Or.inl rfl⟩
set_option maxRecDepth 100000 in
theorem z326 : wZ (.selects RX6 yX6_isEmpty yX6_isEmpty) := ⟨List.mem_append_right _ (List.mem_of_getElem? (i := 360) (by decide +kernel)), Or.inl rfl⟩
set_option maxRecDepth 100000 in
theorem z327 : wZ (.instanceMethod yX6_isEmpty) := ⟨List.mem_append_right _ (List.mem_of_getElem? (i := 359) (by decide +kernel)), Or.inl rfl⟩
set_option maxRecDepth 100000 in
theorem z328 : wZ (.methodLink RX8 170 yX6_isEmpty) := ⟨List.mem_append_right _ (List.mem_of_getElem? (i := 358) (by decide +kernel)), Or.inl rfl⟩
set_option maxRecDepth 100000 in
theorem z329 : wZ (.selects RX0 yX0_placeAt yX0_placeAt) := ⟨List.mem_append_right _ (List.mem_of_getElem? (i := 356) (by decide +kernel)), Or.inl rfl⟩
set_option maxRecDepth 100000 in
theorem z330 : wZ (.instanceMethod yX0_placeAt) := ⟨List.mem_append_right _ (List.mem_of_getElem? (i := 355) (by decide +kernel)), Or.inl rfl⟩
set_option maxRecDepth 100000 in
theorem z331 : wZ (.methodLink RX8 166 yX0_placeAt) := ⟨List.mem_append_right _ (List.mem_of_getElem? (i := 354) (by decide +kernel)), Or.inl rfl⟩
set_option maxRecDepth 100000 in
theorem z332 : wZ (.code yX8_againstLay cX8_againstLay 5 (some .int)) := ⟨List.mem_append_right _ (List.mem_of_getElem? (i := 353) (by decide +kernel)), Or.inl rfl⟩
set_option maxRecDepth 100000 in
theorem z333 : wZ (.static yX8_againstLay) := ⟨List.mem_append_right _ (List.mem_of_getElem? (i := 352) (by decide +kernel)), Or.inl rfl⟩
set_option maxRecDepth 100000 in
theorem z334 : wZ (.methodLink RX8 70 yX8_againstLay) := ⟨List.mem_append_right _ (List.mem_of_getElem? (i := 351) (by decide +kernel)), Or.inl rfl⟩
set_option maxRecDepth 100000 in
theorem z335 : wZ (.code yX10_lay cX10_lay 2 (some .int)) := ⟨List.mem_append_right _ (List.mem_of_getElem? (i := 795) (by decide +kernel)), Or.inl rfl⟩
set_option maxRecDepth 100000 in
theorem z336 : wZ (.code yX8_againstTake cX8_againstTake 3 (some .int)) := ⟨List.mem_append_right _ (List.mem_of_getElem? (i := 381) (by decide +kernel)), Or.inl rfl⟩
set_option maxRecDepth 100000 in
theorem z337 : wZ (.static yX8_againstTake) := ⟨List.mem_append_right _ (List.mem_of_getElem? (i := 380) (by decide +kernel)), Or.inl rfl⟩
set_option maxRecDepth 100000 in
theorem z338 : wZ (.methodLink RX8 73 yX8_againstTake) := ⟨List.mem_append_right _ (List.mem_of_getElem? (i := 379) (by decide +kernel)), Or.inl rfl⟩
set_option maxRecDepth 100000 in
theorem z339 : wZ (.code yX10_take cX10_take 2 (some .int)) := ⟨List.mem_append_right _ (List.mem_of_getElem? (i := 799) (by decide +kernel)), Or.inl rfl⟩
set_option maxRecDepth 100000 in
theorem z340 : wZ (.code yX8_againstMove cX8_againstMove 4 (some .int)) := ⟨List.mem_append_right _ (List.mem_of_getElem? (i := 387) (by decide +kernel)), Or.inl rfl⟩
set_option maxRecDepth 100000 in
theorem z341 : wZ (.static yX8_againstMove) := ⟨List.mem_append_right _ (List.mem_of_getElem? (i := 386) (by decide +kernel)), Or.inl rfl⟩
set_option maxRecDepth 100000 in
theorem z342 : wZ (.methodLink RX8 76 yX8_againstMove) := ⟨List.mem_append_right _ (List.mem_of_getElem? (i := 385) (by decide +kernel)), Or.inl rfl⟩
set_option maxRecDepth 100000 in
theorem z343 : wZ (.code yX8_againstOnMotion cX8_againstOnMotion 6 (some .int)) := ⟨List.mem_append_right _ (List.mem_of_getElem? (i := 384) (by decide +kernel)), Or.inl rfl⟩
set_option maxRecDepth 100000 in
theorem z344 : wZ (.static yX8_againstOnMotion) := ⟨List.mem_append_right _ (List.mem_of_getElem? (i := 383) (by decide +kernel)), Or.inl rfl⟩
set_option maxRecDepth 100000 in
theorem z345 : wZ (.methodLink RX8 19 yX8_againstOnMotion) := ⟨List.mem_append_right _ (List.mem_of_getElem? (i := 382) (by decide +kernel)), Or.inl rfl⟩
set_option maxRecDepth 100000 in
theorem z346 : wZ (.code yX10_move cX10_move 2 (some .int)) := ⟨List.mem_append_right _ (List.mem_of_getElem? (i := 803) (by decide +kernel)), Or.inl rfl⟩
set_option maxRecDepth 100000 in
theorem z347 : wZ (.fieldLink RX8 79 "MotionFloor$House" "chair" "I") := ⟨List.mem_append_right _ (List.mem_of_getElem? (i := 43) (by decide +kernel)), Or.inl rfl⟩
set_option maxRecDepth 100000 in
theorem z348 : wZ (.code yX10_second cX10_second 2 (some .int)) := ⟨List.mem_append_right _ (List.mem_of_getElem? (i := 807) (by decide +kernel)), Or.inl rfl⟩
set_option maxRecDepth 100000 in
theorem z349 : wZ (.code yX10_vote cX10_vote 3 (some .int)) := ⟨List.mem_append_right _ (List.mem_of_getElem? (i := 811) (by decide +kernel)), Or.inl rfl⟩
set_option maxRecDepth 100000 in
theorem z350 : wZ (.code yX10_withdraw cX10_withdraw 2 (some .int)) := ⟨List.mem_append_right _ (List.mem_of_getElem? (i := 815) (by decide +kernel)), Or.inl rfl⟩
set_option maxRecDepth 100000 in
theorem z351 : wZ (.code yX10_rule cX10_rule 1 (some .int)) := ⟨List.mem_append_right _ (List.mem_of_getElem? (i := 819) (by decide +kernel)), Or.inl rfl⟩
set_option maxRecDepth 100000 in
theorem z352 : wZ (.code yX10_appeal cX10_appeal 2 (some .int)) := ⟨List.mem_append_right _ (List.mem_of_getElem? (i := 823) (by decide +kernel)), Or.inl rfl⟩
set_option maxRecDepth 100000 in
theorem z353 : wZ (.code yX10_told cX10_told 1 (some .int)) := ⟨List.mem_append_right _ (List.mem_of_getElem? (i := 827) (by decide +kernel)), Or.inl rfl⟩
set_option maxRecDepth 100000 in
theorem z354 : wZ (.code yX10_adjourn cX10_adjourn 1 (some .int)) := ⟨List.mem_append_right _ (List.mem_of_getElem? (i := 831) (by decide +kernel)), Or.inl rfl⟩
set_option maxRecDepth 100000 in
theorem z355 : wZ (.fieldLink RX10 42 "MotionFloor$Assembly" "reason" "I") := ⟨List.mem_append_right _ (List.mem_of_getElem? (i := 210) (by decide +kernel)), Or.inl rfl⟩
set_option maxRecDepth 100000 in
theorem z356 : wZ (.methodLink RX10 36 yX8_against) := ⟨List.mem_append_right _ (List.mem_of_getElem? (i := 836) (by decide +kernel)), Or.inl rfl⟩
set_option maxRecDepth 100000 in
theorem z357 : wZ (.code yX10_order cX10_order 2 (some .int)) := ⟨List.mem_append_right _ (List.mem_of_getElem? (i := 835) (by decide +kernel)), Or.inl rfl⟩
set_option maxRecDepth 100000 in
theorem z358 : wZ (.code yX10_why cX10_why 1 (some .int)) := ⟨List.mem_append_right _ (List.mem_of_getElem? (i := 840) (by decide +kernel)), Or.inl rfl⟩
set_option maxRecDepth 100000 in
theorem z359 : wZ (.methodLink RX10 50 yX5_at) := ⟨List.mem_append_right _ (List.mem_of_getElem? (i := 845) (by decide +kernel)), Or.inl rfl⟩
set_option maxRecDepth 100000 in
theorem z360 : wZ (.fieldLink RX10 46 "MotionFloor$Assembly" "pending" "LMotionFloor$Pile;") := ⟨List.mem_append_right _ (List.mem_of_getElem? (i := 186) (by decide +kernel)), Or.inl rfl⟩
set_option maxRecDepth 100000 in
theorem z361 : wZ (.code yX10_pending cX10_pending 4 (some .int)) := ⟨List.mem_append_right _ (List.mem_of_getElem? (i := 844) (by decide +kernel)), Or.inl rfl⟩
set_option maxRecDepth 100000 in
theorem z362 : wZ (.fieldLink RX9 15 "MotionFloor$Text" "size" "I") := ⟨List.mem_append_right _ (List.mem_of_getElem? (i := 153) (by decide +kernel)), Or.inl rfl⟩
set_option maxRecDepth 100000 in
theorem z363 : wZ (.code yX9_wordAt cX9_wordAt 2 (some .int)) := ⟨List.mem_append_right _ (List.mem_of_getElem? (i := 861) (by decide +kernel)), Or.inl rfl⟩
set_option maxRecDepth 100000 in
theorem z364 : wZ (.selects RX9 yX9_wordAt yX9_wordAt) := ⟨List.mem_append_right _ (List.mem_of_getElem? (i := 860) (by decide +kernel)), Or.inl rfl⟩
set_option maxRecDepth 100000 in
theorem z365 : wZ (.instanceMethod yX9_wordAt) := ⟨List.mem_append_right _ (List.mem_of_getElem? (i := 859) (by decide +kernel)), Or.inl rfl⟩
set_option maxRecDepth 100000 in
theorem z366 : wZ (.methodLink RX0 145 yX9_wordAt) := ⟨List.mem_append_right _ (List.mem_of_getElem? (i := 858) (by decide +kernel)), Or.inl rfl⟩
set_option maxRecDepth 100000 in
theorem z367 : wZ (.methodLink RX0 149 yX6_motion) := ⟨List.mem_append_right _ (List.mem_of_getElem? (i := 862) (by decide +kernel)), Or.inl rfl⟩
set_option maxRecDepth 100000 in
theorem z368 : wZ (.methodLink RX0 97 yX5_at) := ⟨List.mem_append_right _ (List.mem_of_getElem? (i := 863) (by decide +kernel)), Or.inl rfl⟩
set_option maxRecDepth 100000 in
theorem z369 : wZ (.code yX0_wordOf cX0_wordOf 4 (some .int)) := ⟨List.mem_append_right _ (List.mem_of_getElem? (i := 857) (by decide +kernel)), Or.inl rfl⟩
set_option maxRecDepth 100000 in
theorem z370 : wZ (.selects RX0 yX0_wordOf yX0_wordOf) := ⟨List.mem_append_right _ (List.mem_of_getElem? (i := 856) (by decide +kernel)), Or.inl rfl⟩
set_option maxRecDepth 100000 in
theorem z371 : wZ (.instanceMethod yX0_wordOf) := ⟨List.mem_append_right _ (List.mem_of_getElem? (i := 855) (by decide +kernel)), Or.inl rfl⟩
set_option maxRecDepth 100000 in
theorem z372 : wZ (.methodLink RX10 62 yX0_wordOf) := ⟨List.mem_append_right _ (List.mem_of_getElem? (i := 854) (by decide +kernel)), Or.inl rfl⟩
set_option maxRecDepth 100000 in
theorem z373 : wZ (.code yX10_text cX10_text 3 (some .int)) := ⟨List.mem_append_right _ (List.mem_of_getElem? (i := 853) (by decide +kernel)), Or.inl rfl⟩
set_option maxRecDepth 100000 in
theorem z374 : wZ (.methodLink RX10 66 yX5_top) := ⟨List.mem_append_right _ (List.mem_of_getElem? (i := 868) (by decide +kernel)), Or.inl rfl⟩
set_option maxRecDepth 100000 in
theorem z375 : wZ (.code yX10_ballot cX10_ballot 3 (some .int)) := ⟨List.mem_append_right _ (List.mem_of_getElem? (i := 867) (by decide +kernel)), Or.inl rfl⟩
set_option maxRecDepth 100000 in
theorem z376 : wZ (.methodLink RX6 22 yX5_at) := ⟨List.mem_append_right _ (List.mem_of_getElem? (i := 340) (by decide +kernel)), Or.inl rfl⟩
set_option maxRecDepth 100000 in
theorem z377 : wZ (.code yX6_kind cX6_kind 2 (some .int)) := ⟨List.mem_append_right _ (List.mem_of_getElem? (i := 626) (by decide +kernel)), Or.inl rfl⟩
set_option maxRecDepth 100000 in
theorem z378 : wZ (.selects RX6 yX6_kind yX6_kind) := ⟨List.mem_append_right _ (List.mem_of_getElem? (i := 625) (by decide +kernel)), Or.inl rfl⟩
set_option maxRecDepth 100000 in
theorem z379 : wZ (.instanceMethod yX6_kind) := ⟨List.mem_append_right _ (List.mem_of_getElem? (i := 624) (by decide +kernel)), Or.inl rfl⟩
set_option maxRecDepth 100000 in
theorem z380 : wZ (.methodLink RX6 56 yX6_kind) := ⟨List.mem_append_right _ (List.mem_of_getElem? (i := 880) (by decide +kernel)), Or.inl rfl⟩
set_option maxRecDepth 100000 in
theorem z381 : wZ (.methodLink RX6 49 yX6_motion) := ⟨List.mem_append_right _ (List.mem_of_getElem? (i := 879) (by decide +kernel)), Or.inl rfl⟩
set_option maxRecDepth 100000 in
theorem z382 : wZ (.code yX6_fact cX6_fact 4 (some .int)) := ⟨List.mem_append_right _ (List.mem_of_getElem? (i := 878) (by decide +kernel)), Or.inl rfl⟩
set_option maxRecDepth 100000 in
theorem z383 : wZ (.selects RX6 yX6_fact yX6_fact) := ⟨List.mem_append_right _ (List.mem_of_getElem? (i := 877) (by decide +kernel)), Or.inl rfl⟩
set_option maxRecDepth 100000 in
theorem z384 : wZ (.instanceMethod yX6_fact) := ⟨List.mem_append_right _ (List.mem_of_getElem? (i := 876) (by decide +kernel)), Or.inl rfl⟩
set_option maxRecDepth 100000 in
theorem z385 : wZ (.methodLink RX10 77 yX6_fact) := ⟨List.mem_append_right _ (List.mem_of_getElem? (i := 875) (by decide +kernel)), Or.inl rfl⟩
set_option maxRecDepth 100000 in
theorem z386 : wZ (.methodLink RX10 73 yX0_placeAt) := ⟨List.mem_append_right _ (List.mem_of_getElem? (i := 874) (by decide +kernel)), Or.inl rfl⟩
set_option maxRecDepth 100000 in
theorem z387 : wZ (.code yX10_desk cX10_desk 4 (some .int)) := ⟨List.mem_append_right _ (List.mem_of_getElem? (i := 873) (by decide +kernel)), Or.inl rfl⟩
set_option maxRecDepth 100000 in
theorem z388 : wZ (.code yX6_wordAt cX6_wordAt 3 (some .int)) := ⟨List.mem_append_right _ (List.mem_of_getElem? (i := 888) (by decide +kernel)), Or.inl rfl⟩
set_option maxRecDepth 100000 in
theorem z389 : wZ (.selects RX6 yX6_wordAt yX6_wordAt) := ⟨List.mem_append_right _ (List.mem_of_getElem? (i := 887) (by decide +kernel)), Or.inl rfl⟩
set_option maxRecDepth 100000 in
theorem z390 : wZ (.instanceMethod yX6_wordAt) := ⟨List.mem_append_right _ (List.mem_of_getElem? (i := 886) (by decide +kernel)), Or.inl rfl⟩
set_option maxRecDepth 100000 in
theorem z391 : wZ (.methodLink RX10 80 yX6_wordAt) := ⟨List.mem_append_right _ (List.mem_of_getElem? (i := 885) (by decide +kernel)), Or.inl rfl⟩
set_option maxRecDepth 100000 in
theorem z392 : wZ (.code yX10_lying cX10_lying 4 (some .int)) := ⟨List.mem_append_right _ (List.mem_of_getElem? (i := 884) (by decide +kernel)), Or.inl rfl⟩
set_option maxRecDepth 100000 in
theorem z393 : wZ (.code yX3_at cX3_at 4 (some .int)) := ⟨List.mem_append_right _ (List.mem_of_getElem? (i := 897) (by decide +kernel)), Or.inl rfl⟩
set_option maxRecDepth 100000 in
theorem z394 : wZ (.selects RX3 yX3_at yX3_at) := ⟨List.mem_append_right _ (List.mem_of_getElem? (i := 896) (by decide +kernel)), Or.inl rfl⟩
set_option maxRecDepth 100000 in
theorem z395 : wZ (.instanceMethod yX3_at) := ⟨List.mem_append_right _ (List.mem_of_getElem? (i := 895) (by decide +kernel)), Or.inl rfl⟩
set_option maxRecDepth 100000 in
theorem z396 : wZ (.methodLink RX10 86 yX3_at) := ⟨List.mem_append_right _ (List.mem_of_getElem? (i := 894) (by decide +kernel)), Or.inl rfl⟩
set_option maxRecDepth 100000 in
theorem z397 : wZ (.fieldLink RX10 83 "MotionFloor$Assembly" "results" "LMotionFloor$Ledger;") := ⟨List.mem_append_right _ (List.mem_of_getElem? (i := 200) (by decide +kernel)), Or.inl rfl⟩
set_option maxRecDepth 100000 in
theorem z398 : wZ (.code yX10_result cX10_result 3 (some .int)) := ⟨List.mem_append_right _ (List.mem_of_getElem? (i := 893) (by decide +kernel)), Or.inl rfl⟩
set_option maxRecDepth 100000 in
theorem z399 : wZ (.fieldLink RX10 127 "MotionFloor$Assembly" "adoptions" "I") := ⟨List.mem_append_right _ (List.mem_of_getElem? (i := 206) (by decide +kernel)), Or.inl rfl⟩
set_option maxRecDepth 100000 in
theorem z400 : wZ (.fieldLink RX10 126 "MotionFloor$Ledger" "size" "I") := ⟨List.mem_append_right _ (List.mem_of_getElem? (i := 136) (by decide +kernel)), Or.inl rfl⟩
set_option maxRecDepth 100000 in
theorem z401 : wZ (.fieldLink RX10 123 "MotionFloor$Assembly" "minutes" "LMotionFloor$Ledger;") := ⟨List.mem_append_right _ (List.mem_of_getElem? (i := 197) (by decide +kernel)), Or.inl rfl⟩
set_option maxRecDepth 100000 in
theorem z402 : wZ (.methodLink RX10 119 yX6_kind) := ⟨List.mem_append_right _ (List.mem_of_getElem? (i := 902) (by decide +kernel)), Or.inl rfl⟩
set_option maxRecDepth 100000 in
theorem z403 : wZ (.fieldLink RX10 115 "MotionFloor$Assembly" "draft" "LMotionFloor$Place;") := ⟨List.mem_append_right _ (List.mem_of_getElem? (i := 191) (by decide +kernel)), Or.inl rfl⟩
set_option maxRecDepth 100000 in
theorem z404 : wZ (.fieldLink RX10 112 "MotionFloor$Pile" "size" "I") := ⟨List.mem_append_right _ (List.mem_of_getElem? (i := 93) (by decide +kernel)), Or.inl rfl⟩
set_option maxRecDepth 100000 in
theorem z405 : wZ (.fieldLink RX10 109 "MotionFloor$House" "speaker" "I") := ⟨List.mem_append_right _ (List.mem_of_getElem? (i := 57) (by decide +kernel)), Or.inl rfl⟩
set_option maxRecDepth 100000 in
theorem z406 : wZ (.fieldLink RX10 106 "MotionFloor$House" "limit" "I") := ⟨List.mem_append_right _ (List.mem_of_getElem? (i := 52) (by decide +kernel)), Or.inl rfl⟩
set_option maxRecDepth 100000 in
theorem z407 : wZ (.fieldLink RX10 103 "MotionFloor$House" "quorum" "I") := ⟨List.mem_append_right _ (List.mem_of_getElem? (i := 48) (by decide +kernel)), Or.inl rfl⟩
set_option maxRecDepth 100000 in
theorem z408 : wZ (.fieldLink RX10 100 "MotionFloor$House" "chair" "I") := ⟨List.mem_append_right _ (List.mem_of_getElem? (i := 45) (by decide +kernel)), Or.inl rfl⟩
set_option maxRecDepth 100000 in
theorem z409 : wZ (.fieldLink RX10 97 "MotionFloor$House" "present" "I") := ⟨List.mem_append_right _ (List.mem_of_getElem? (i := 41) (by decide +kernel)), Or.inl rfl⟩
set_option maxRecDepth 100000 in
theorem z410 : wZ (.fieldLink RX10 92 "MotionFloor$House" "seats" "I") := ⟨List.mem_append_right _ (List.mem_of_getElem? (i := 38) (by decide +kernel)), Or.inl rfl⟩
set_option maxRecDepth 100000 in
theorem z411 : wZ (.fieldLink RX10 88 "MotionFloor$Assembly" "house" "LMotionFloor$House;") := ⟨List.mem_append_right _ (List.mem_of_getElem? (i := 181) (by decide +kernel)), Or.inl rfl⟩
set_option maxRecDepth 100000 in
theorem z412 : wZ (.code yX10_count cX10_count 2 (some .int)) := ⟨List.mem_append_right _ (List.mem_of_getElem? (i := 901) (by decide +kernel)), Or.inl rfl⟩
set_option maxRecDepth 100000 in
theorem z413 : wZ (.methodLink RX10 141 yX2_isThere) := ⟨List.mem_append_right _ (List.mem_of_getElem? (i := 908) (by decide +kernel)), Or.inl rfl⟩
set_option maxRecDepth 100000 in
theorem z414 : wZ (.methodLink RX10 137 yX2_has) := ⟨List.mem_append_right _ (List.mem_of_getElem? (i := 907) (by decide +kernel)), Or.inl rfl⟩
set_option maxRecDepth 100000 in
theorem z415 : wZ (.code yX10_seat cX10_seat 2 (some .int)) := ⟨List.mem_append_right _ (List.mem_of_getElem? (i := 906) (by decide +kernel)), Or.inl rfl⟩
set_option maxRecDepth 100000 in
theorem z416 : wZ (.code yX10_journal cX10_journal 3 (some .int)) := ⟨List.mem_append_right _ (List.mem_of_getElem? (i := 912) (by decide +kernel)), Or.inl rfl⟩
set_option maxRecDepth 100000 in
theorem z417 : wZ (.code yX10_before cX10_before 6 (some .int)) := ⟨List.mem_append_right _ (List.mem_of_getElem? (i := 916) (by decide +kernel)), Or.inl rfl⟩
set_option maxRecDepth 100000 in
theorem z418 : wZ (.code yX10_again cX10_again 4 (some .int)) := ⟨List.mem_append_right _ (List.mem_of_getElem? (i := 920) (by decide +kernel)), Or.inl rfl⟩
set_option maxRecDepth 100000 in
theorem z419 : wZ (.methodLink RX10 151 yX3_write) := ⟨List.mem_append_right _ (List.mem_of_getElem? (i := 927) (by decide +kernel)), Or.inl rfl⟩
set_option maxRecDepth 100000 in
theorem z420 : wZ (.methodLink RX10 148 yX3_open) := ⟨List.mem_append_right _ (List.mem_of_getElem? (i := 926) (by decide +kernel)), Or.inl rfl⟩
set_option maxRecDepth 100000 in
theorem z421 : wZ (.methodLink RX10 144 yX3_isFull) := ⟨List.mem_append_right _ (List.mem_of_getElem? (i := 925) (by decide +kernel)), Or.inl rfl⟩
set_option maxRecDepth 100000 in
theorem z422 : wZ (.code yX10_tell cX10_tell 7 (some .int)) := ⟨List.mem_append_right _ (List.mem_of_getElem? (i := 924) (by decide +kernel)), Or.inl rfl⟩
set_option maxRecDepth 100000 in
theorem z423 : wZ (.code yX10_check cX10_check 4 (some .int)) := ⟨List.mem_append_right _ (List.mem_of_getElem? (i := 931) (by decide +kernel)), Or.inl rfl⟩
set_option maxRecDepth 100000 in
theorem z424 : wZ (.code yX10_strike cX10_strike 2 (some .int)) := ⟨List.mem_append_right _ (List.mem_of_getElem? (i := 941) (by decide +kernel)), Or.inl rfl⟩
set_option maxRecDepth 100000 in
theorem z425 : wZ (.initialized "java/lang/System") := ⟨List.mem_append_right _ (List.mem_of_getElem? (i := 16) (by decide +kernel)), Or.inl rfl⟩
set_option maxRecDepth 100000 in
theorem z426 : wZ (.static arraycopyName) := ⟨List.mem_append_right _ (List.mem_of_getElem? (i := 689) (by decide +kernel)), Or.inl rfl⟩
set_option maxRecDepth 100000 in
theorem z427 : wZ (.native arraycopyName) := ⟨List.mem_append_right _ (List.mem_of_getElem? (i := 690) (by decide +kernel)), Or.inl rfl⟩
set_option maxRecDepth 100000 in
theorem z428 : wZ (.methodLink RX2 47 arraycopyName) := ⟨List.mem_append_right _ (List.mem_of_getElem? (i := 958) (by decide +kernel)), Or.inl rfl⟩
set_option maxRecDepth 100000 in
theorem z429 : wZ (.code yX2_become cX2_become 3 none) := ⟨List.mem_append_right _ (List.mem_of_getElem? (i := 957) (by decide +kernel)), Or.inl rfl⟩
set_option maxRecDepth 100000 in
theorem z430 : wZ (.code yX0_copy cX0_copy 6 none) := ⟨List.mem_append_right _ (List.mem_of_getElem? (i := 962) (by decide +kernel)), Or.inl rfl⟩
set_option maxRecDepth 100000 in
theorem z431 : wZ (.methodLink RX3 42 arraycopyName) := ⟨List.mem_append_right _ (List.mem_of_getElem? (i := 975) (by decide +kernel)), Or.inl rfl⟩
set_option maxRecDepth 100000 in
theorem z432 : wZ (.code Lib.Math.min.name Lib.Math.min.code 2 (some .int)) := ⟨List.mem_append_right _ (List.mem_of_getElem? (i := 676) (by decide +kernel)), Or.inl rfl⟩
set_option maxRecDepth 100000 in
theorem z433 : wZ (.static Lib.Math.min.name) := ⟨List.mem_append_right _ (List.mem_of_getElem? (i := 675) (by decide +kernel)), Or.inl rfl⟩
set_option maxRecDepth 100000 in
theorem z434 : wZ (.methodLink RX3 39 Lib.Math.min.name) := ⟨List.mem_append_right _ (List.mem_of_getElem? (i := 674) (by decide +kernel)), Or.inl rfl⟩
set_option maxRecDepth 100000 in
theorem z435 : wZ (.code yX3_become cX3_become 3 none) := ⟨List.mem_append_right _ (List.mem_of_getElem? (i := 974) (by decide +kernel)), Or.inl rfl⟩
set_option maxRecDepth 100000 in
theorem z436 : wZ (.methodLink RX9 28 arraycopyName) := ⟨List.mem_append_right _ (List.mem_of_getElem? (i := 726) (by decide +kernel)), Or.inl rfl⟩
set_option maxRecDepth 100000 in
theorem z437 : wZ (.methodLink RX9 25 Lib.Math.max.name) := ⟨List.mem_append_right _ (List.mem_of_getElem? (i := 725) (by decide +kernel)), Or.inl rfl⟩
set_option maxRecDepth 100000 in
theorem z438 : wZ (.methodLink RX9 19 Lib.Math.min.name) := ⟨List.mem_append_right _ (List.mem_of_getElem? (i := 724) (by decide +kernel)), Or.inl rfl⟩
set_option maxRecDepth 100000 in
theorem z439 : wZ (.code yX9_become cX9_become 2 none) := ⟨List.mem_append_right _ (List.mem_of_getElem? (i := 723) (by decide +kernel)), Or.inl rfl⟩
set_option maxRecDepth 100000 in
theorem z440 : wZ (.selects RX9 yX9_become yX9_become) := ⟨List.mem_append_right _ (List.mem_of_getElem? (i := 722) (by decide +kernel)), Or.inl rfl⟩
set_option maxRecDepth 100000 in
theorem z441 : wZ (.instanceMethod yX9_become) := ⟨List.mem_append_right _ (List.mem_of_getElem? (i := 721) (by decide +kernel)), Or.inl rfl⟩
set_option maxRecDepth 100000 in
theorem z442 : wZ (.methodLink RX0 93 yX9_become) := ⟨List.mem_append_right _ (List.mem_of_getElem? (i := 976) (by decide +kernel)), Or.inl rfl⟩
set_option maxRecDepth 100000 in
theorem z443 : wZ (.selects RX3 yX3_become yX3_become) := ⟨List.mem_append_right _ (List.mem_of_getElem? (i := 973) (by decide +kernel)), Or.inl rfl⟩
set_option maxRecDepth 100000 in
theorem z444 : wZ (.instanceMethod yX3_become) := ⟨List.mem_append_right _ (List.mem_of_getElem? (i := 972) (by decide +kernel)), Or.inl rfl⟩
set_option maxRecDepth 100000 in
theorem z445 : wZ (.methodLink RX0 90 yX3_become) := ⟨List.mem_append_right _ (List.mem_of_getElem? (i := 971) (by decide +kernel)), Or.inl rfl⟩
set_option maxRecDepth 100000 in
theorem z446 : wZ (.selects RX0 yX0_copy yX0_copy) := ⟨List.mem_append_right _ (List.mem_of_getElem? (i := 961) (by decide +kernel)), Or.inl rfl⟩
set_option maxRecDepth 100000 in
theorem z447 : wZ (.instanceMethod yX0_copy) := ⟨List.mem_append_right _ (List.mem_of_getElem? (i := 960) (by decide +kernel)), Or.inl rfl⟩
set_option maxRecDepth 100000 in
theorem z448 : wZ (.methodLink RX0 80 yX0_copy) := ⟨List.mem_append_right _ (List.mem_of_getElem? (i := 959) (by decide +kernel)), Or.inl rfl⟩
set_option maxRecDepth 100000 in
theorem z449 : wZ (.selects RX2 yX2_become yX2_become) := ⟨List.mem_append_right _ (List.mem_of_getElem? (i := 956) (by decide +kernel)), Or.inl rfl⟩
set_option maxRecDepth 100000 in
theorem z450 : wZ (.instanceMethod yX2_become) := ⟨List.mem_append_right _ (List.mem_of_getElem? (i := 955) (by decide +kernel)), Or.inl rfl⟩
set_option maxRecDepth 100000 in
theorem z451 : wZ (.methodLink RX0 76 yX2_become) := ⟨List.mem_append_right _ (List.mem_of_getElem? (i := 954) (by decide +kernel)), Or.inl rfl⟩
set_option maxRecDepth 100000 in
theorem z452 : wZ (.code yX0_become cX0_become 3 none) := ⟨List.mem_append_right _ (List.mem_of_getElem? (i := 953) (by decide +kernel)), Or.inl rfl⟩
set_option maxRecDepth 100000 in
theorem z453 : wZ (.selects RX0 yX0_become yX0_become) := ⟨List.mem_append_right _ (List.mem_of_getElem? (i := 952) (by decide +kernel)), Or.inl rfl⟩
set_option maxRecDepth 100000 in
theorem z454 : wZ (.instanceMethod yX0_become) := ⟨List.mem_append_right _ (List.mem_of_getElem? (i := 951) (by decide +kernel)), Or.inl rfl⟩
set_option maxRecDepth 100000 in
theorem z455 : wZ (.methodLink RX10 167 yX0_become) := ⟨List.mem_append_right _ (List.mem_of_getElem? (i := 950) (by decide +kernel)), Or.inl rfl⟩
set_option maxRecDepth 100000 in
theorem z456 : wZ (.code yX10_imageOfNow cX10_imageOfNow 3 (some (.object "MotionFloor$Assembly"))) := ⟨List.mem_append_right _ (List.mem_of_getElem? (i := 949) (by decide +kernel)), Or.inl rfl⟩
set_option maxRecDepth 100000 in
theorem z457 : wZ (.fieldLink RX10 157 "MotionFloor" "firstImage" "LMotionFloor$Assembly;") := ⟨List.mem_append_right _ (List.mem_of_getElem? (i := 239) (by decide +kernel)), Or.inl rfl⟩
set_option maxRecDepth 100000 in
theorem z458 : wZ (.initialized RX10) := ⟨List.mem_append_right _ (List.mem_of_getElem? (i := 1) (by decide +kernel)), Or.inl rfl⟩
set_option maxRecDepth 100000 in
theorem z459 : wZ (.selects RX10 yX10_imageOfNow yX10_imageOfNow) := ⟨List.mem_append_left _ (List.mem_of_getElem? (i := 1) (by decide +kernel)), Or.inl rfl⟩
set_option maxRecDepth 100000 in
theorem z460 : wZ (.instanceMethod yX10_imageOfNow) := ⟨List.mem_append_right _ (List.mem_of_getElem? (i := 948) (by decide +kernel)), Or.inl rfl⟩
set_option maxRecDepth 100000 in
theorem z461 : wZ (.methodLink RX10 160 yX10_imageOfNow) := ⟨List.mem_append_right _ (List.mem_of_getElem? (i := 946) (by decide +kernel)), Or.inl rfl⟩
set_option maxRecDepth 100000 in
theorem z462 : wZ (.fieldLink RX10 164 "MotionFloor" "secondImage" "LMotionFloor$Assembly;") := ⟨List.mem_append_right _ (List.mem_of_getElem? (i := 240) (by decide +kernel)), Or.inl rfl⟩
set_option maxRecDepth 100000 in
theorem z463 : wZ (.code yX10_image cX10_image 2 (some .int)) := ⟨List.mem_append_right _ (List.mem_of_getElem? (i := 945) (by decide +kernel)), Or.inl rfl⟩
set_option maxRecDepth 100000 in
theorem z464 : wZ (.code yX10_back cX10_back 3 (some .int)) := ⟨List.mem_append_right _ (List.mem_of_getElem? (i := 980) (by decide +kernel)), Or.inl rfl⟩
set_option maxRecDepth 100000 in
theorem z465 : wZ (.lays "MotionFloorModel$Hall" "MotionFloorModel$Hall" "seats" "I") := ⟨List.mem_append_right _ (List.mem_of_getElem? (i := 1071) (by decide +kernel)), Or.inl rfl⟩
set_option maxRecDepth 100000 in
theorem z466 : wZ (.lays "MotionFloorModel$Hall" "MotionFloorModel$Hall" "there" "I") := ⟨List.mem_append_right _ (List.mem_of_getElem? (i := 1073) (by decide +kernel)), Or.inl rfl⟩
set_option maxRecDepth 100000 in
theorem z467 : wZ (.lays "MotionFloorModel$Hall" "MotionFloorModel$Hall" "chair" "I") := ⟨List.mem_append_right _ (List.mem_of_getElem? (i := 1075) (by decide +kernel)), Or.inl rfl⟩
set_option maxRecDepth 100000 in
theorem z468 : wZ (.lays "MotionFloorModel$Hall" "MotionFloorModel$Hall" "quorum" "I") := ⟨List.mem_append_right _ (List.mem_of_getElem? (i := 1077) (by decide +kernel)), Or.inl rfl⟩
set_option maxRecDepth 100000 in
theorem z469 : wZ (.lays "MotionFloorModel$Hall" "MotionFloorModel$Hall" "limit" "I") := ⟨List.mem_append_right _ (List.mem_of_getElem? (i := 1079) (by decide +kernel)), Or.inl rfl⟩
set_option maxRecDepth 100000 in
theorem z470 : wZ (.lays "MotionFloorModel$Hall" "MotionFloorModel$Hall" "floor" "I") := ⟨List.mem_append_right _ (List.mem_of_getElem? (i := 1081) (by decide +kernel)), Or.inl rfl⟩
set_option maxRecDepth 100000 in
theorem z471 : wZ (.lays "MotionFloorModel$Hall" "MotionFloorModel$Hall" "pending" "I") := ⟨List.mem_append_right _ (List.mem_of_getElem? (i := 1083) (by decide +kernel)), Or.inl rfl⟩
set_option maxRecDepth 100000 in
theorem z472 : wZ (.lays "MotionFloorModel$Hall" "MotionFloorModel$Hall" "entries" "I") := ⟨List.mem_append_right _ (List.mem_of_getElem? (i := 1085) (by decide +kernel)), Or.inl rfl⟩
set_option maxRecDepth 100000 in
theorem z473 : wZ (.lays "MotionFloorModel$Hall" "MotionFloorModel$Hall" "results" "I") := ⟨List.mem_append_right _ (List.mem_of_getElem? (i := 1087) (by decide +kernel)), Or.inl rfl⟩
set_option maxRecDepth 100000 in
theorem z474 : wZ (.lays "MotionFloorModel$Hall" "MotionFloorModel$Hall" "adopted" "I") := ⟨List.mem_append_right _ (List.mem_of_getElem? (i := 1089) (by decide +kernel)), Or.inl rfl⟩
set_option maxRecDepth 100000 in
theorem z475 : wZ (.lays "MotionFloorModel$Hall" "MotionFloorModel$Hall" "why" "I") := ⟨List.mem_append_right _ (List.mem_of_getElem? (i := 1091) (by decide +kernel)), Or.inl rfl⟩
set_option maxRecDepth 100000 in
theorem z476 : wZ (.laysFinal "MotionFloorModel$Hall" "MotionFloorModel$Hall" "isThere" "[Z") := ⟨List.mem_append_right _ (List.mem_of_getElem? (i := 1093) (by decide +kernel)), Or.inl rfl⟩
set_option maxRecDepth 100000 in
theorem z477 : wZ (.laysFinal "MotionFloorModel$Hall" "MotionFloorModel$Hall" "majority" "[I") := ⟨List.mem_append_right _ (List.mem_of_getElem? (i := 1095) (by decide +kernel)), Or.inl rfl⟩
set_option maxRecDepth 100000 in
theorem z478 : wZ (.laysFinal "MotionFloorModel$Hall" "MotionFloorModel$Hall" "used" "[Z") := ⟨List.mem_append_right _ (List.mem_of_getElem? (i := 1097) (by decide +kernel)), Or.inl rfl⟩
set_option maxRecDepth 100000 in
theorem z479 : wZ (.laysFinal "MotionFloorModel$Hall" "MotionFloorModel$Hall" "kind" "[I") := ⟨List.mem_append_right _ (List.mem_of_getElem? (i := 1099) (by decide +kernel)), Or.inl rfl⟩
set_option maxRecDepth 100000 in
theorem z480 : wZ (.laysFinal "MotionFloorModel$Hall" "MotionFloorModel$Hall" "mover" "[I") := ⟨List.mem_append_right _ (List.mem_of_getElem? (i := 1101) (by decide +kernel)), Or.inl rfl⟩
set_option maxRecDepth 100000 in
theorem z481 : wZ (.laysFinal "MotionFloorModel$Hall" "MotionFloorModel$Hall" "seconder" "[I") := ⟨List.mem_append_right _ (List.mem_of_getElem? (i := 1103) (by decide +kernel)), Or.inl rfl⟩
set_option maxRecDepth 100000 in
theorem z482 : wZ (.laysFinal "MotionFloorModel$Hall" "MotionFloorModel$Hall" "floors" "[I") := ⟨List.mem_append_right _ (List.mem_of_getElem? (i := 1105) (by decide +kernel)), Or.inl rfl⟩
set_option maxRecDepth 100000 in
theorem z483 : wZ (.laysFinal "MotionFloorModel$Hall" "MotionFloorModel$Hall" "speeches" "[I") := ⟨List.mem_append_right _ (List.mem_of_getElem? (i := 1107) (by decide +kernel)), Or.inl rfl⟩
set_option maxRecDepth 100000 in
theorem z484 : wZ (.laysFinal "MotionFloorModel$Hall" "MotionFloorModel$Hall" "words" "[I") := ⟨List.mem_append_right _ (List.mem_of_getElem? (i := 1109) (by decide +kernel)), Or.inl rfl⟩
set_option maxRecDepth 100000 in
theorem z485 : wZ (.laysFinal "MotionFloorModel$Hall" "MotionFloorModel$Hall" "from" "[I") := ⟨List.mem_append_right _ (List.mem_of_getElem? (i := 1111) (by decide +kernel)), Or.inl rfl⟩
set_option maxRecDepth 100000 in
theorem z486 : wZ (.laysFinal "MotionFloorModel$Hall" "MotionFloorModel$Hall" "to" "[I") := ⟨List.mem_append_right _ (List.mem_of_getElem? (i := 1113) (by decide +kernel)), Or.inl rfl⟩
set_option maxRecDepth 100000 in
theorem z487 : wZ (.laysFinal "MotionFloorModel$Hall" "MotionFloorModel$Hall" "self" "[I") := ⟨List.mem_append_right _ (List.mem_of_getElem? (i := 1115) (by decide +kernel)), Or.inl rfl⟩
set_option maxRecDepth 100000 in
theorem z488 : wZ (.laysFinal "MotionFloorModel$Hall" "MotionFloorModel$Hall" "subject" "[I") := ⟨List.mem_append_right _ (List.mem_of_getElem? (i := 1117) (by decide +kernel)), Or.inl rfl⟩
set_option maxRecDepth 100000 in
theorem z489 : wZ (.laysFinal "MotionFloorModel$Hall" "MotionFloorModel$Hall" "closed" "[Z") := ⟨List.mem_append_right _ (List.mem_of_getElem? (i := 1119) (by decide +kernel)), Or.inl rfl⟩
set_option maxRecDepth 100000 in
theorem z490 : wZ (.laysFinal "MotionFloorModel$Hall" "MotionFloorModel$Hall" "laid" "[Z") := ⟨List.mem_append_right _ (List.mem_of_getElem? (i := 1121) (by decide +kernel)), Or.inl rfl⟩
set_option maxRecDepth 100000 in
theorem z491 : wZ (.laysFinal "MotionFloorModel$Hall" "MotionFloorModel$Hall" "outside" "[Z") := ⟨List.mem_append_right _ (List.mem_of_getElem? (i := 1123) (by decide +kernel)), Or.inl rfl⟩
set_option maxRecDepth 100000 in
theorem z492 : wZ (.laysFinal "MotionFloorModel$Hall" "MotionFloorModel$Hall" "letter" "[Z") := ⟨List.mem_append_right _ (List.mem_of_getElem? (i := 1125) (by decide +kernel)), Or.inl rfl⟩
set_option maxRecDepth 100000 in
theorem z493 : wZ (.laysFinal "MotionFloorModel$Hall" "MotionFloorModel$Hall" "text" "[I") := ⟨List.mem_append_right _ (List.mem_of_getElem? (i := 1127) (by decide +kernel)), Or.inl rfl⟩
set_option maxRecDepth 100000 in
theorem z494 : wZ (.laysFinal "MotionFloorModel$Hall" "MotionFloorModel$Hall" "ballot" "[B") := ⟨List.mem_append_right _ (List.mem_of_getElem? (i := 1129) (by decide +kernel)), Or.inl rfl⟩
set_option maxRecDepth 100000 in
theorem z495 : wZ (.lays "MotionFloorModel$Hall" "MotionFloorModel$Hall" "born" "I") := ⟨List.mem_append_right _ (List.mem_of_getElem? (i := 1131) (by decide +kernel)), Or.inl rfl⟩
set_option maxRecDepth 100000 in
theorem z496 : wZ (.laysFinal "MotionFloorModel$Hall" "MotionFloorModel$Hall" "row" "[I") := ⟨List.mem_append_right _ (List.mem_of_getElem? (i := 1133) (by decide +kernel)), Or.inl rfl⟩
set_option maxRecDepth 100000 in
theorem z497 : wZ (.laysFinal "MotionFloorModel$Hall" "MotionFloorModel$Hall" "draft" "[I") := ⟨List.mem_append_right _ (List.mem_of_getElem? (i := 1135) (by decide +kernel)), Or.inl rfl⟩
set_option maxRecDepth 100000 in
theorem z498 : wZ (.laysFinal "MotionFloorModel$Hall" "MotionFloorModel$Hall" "desk" "[I") := ⟨List.mem_append_right _ (List.mem_of_getElem? (i := 1137) (by decide +kernel)), Or.inl rfl⟩
set_option maxRecDepth 100000 in
theorem z499 : wZ (.laysFinal "MotionFloorModel$Hall" "MotionFloorModel$Hall" "lying" "[I") := ⟨List.mem_append_right _ (List.mem_of_getElem? (i := 1139) (by decide +kernel)), Or.inl rfl⟩
set_option maxRecDepth 100000 in
theorem z500 : wZ (.lays "MotionFloorModel$Hall" "MotionFloorModel$Hall" "drafted" "I") := ⟨List.mem_append_right _ (List.mem_of_getElem? (i := 1141) (by decide +kernel)), Or.inl rfl⟩
set_option maxRecDepth 100000 in
theorem z501 : wZ (.lays "MotionFloorModel$Hall" "MotionFloorModel$Hall" "draftTabled" "Z") := ⟨List.mem_append_right _ (List.mem_of_getElem? (i := 1143) (by decide +kernel)), Or.inl rfl⟩
set_option maxRecDepth 100000 in
theorem z502 : wZ (.laysFinal "MotionFloorModel$Hall" "MotionFloorModel$Hall" "tabled" "[Z") := ⟨List.mem_append_right _ (List.mem_of_getElem? (i := 1145) (by decide +kernel)), Or.inl rfl⟩
set_option maxRecDepth 100000 in
theorem z503 : wZ (.laysFinal "MotionFloorModel$Hall" "MotionFloorModel$Hall" "last" "[I") := ⟨List.mem_append_right _ (List.mem_of_getElem? (i := 1147) (by decide +kernel)), Or.inl rfl⟩
set_option maxRecDepth 100000 in
theorem z504 : wZ (.lays "MotionFloorModel$Hall" "MotionFloorModel$Hall" "lastWords" "I") := ⟨List.mem_append_right _ (List.mem_of_getElem? (i := 1149) (by decide +kernel)), Or.inl rfl⟩
set_option maxRecDepth 100000 in
theorem z505 : wZ (.laysFinal "MotionFloorModel$Hall" "MotionFloorModel$Hall" "minutes" "[I") := ⟨List.mem_append_right _ (List.mem_of_getElem? (i := 1151) (by decide +kernel)), Or.inl rfl⟩
set_option maxRecDepth 100000 in
theorem z506 : wZ (.laysFinal "MotionFloorModel$Hall" "MotionFloorModel$Hall" "result" "[I") := ⟨List.mem_append_right _ (List.mem_of_getElem? (i := 1153) (by decide +kernel)), Or.inl rfl⟩
theorem zcX11 : GoodIn lw_tbl wsX110 := by
  show GoodIn lw_tbl [.lays "MotionFloorModel$Hall" "MotionFloorModel$Hall" "seats" "I", .lays "MotionFloorModel$Hall" "MotionFloorModel$Hall" "there" "I", .lays "MotionFloorModel$Hall" "MotionFloorModel$Hall" "chair" "I", .lays "MotionFloorModel$Hall" "MotionFloorModel$Hall" "quorum" "I", .lays "MotionFloorModel$Hall" "MotionFloorModel$Hall" "limit" "I", .lays "MotionFloorModel$Hall" "MotionFloorModel$Hall" "floor" "I", .lays "MotionFloorModel$Hall" "MotionFloorModel$Hall" "pending" "I", .lays "MotionFloorModel$Hall" "MotionFloorModel$Hall" "entries" "I", .lays "MotionFloorModel$Hall" "MotionFloorModel$Hall" "results" "I", .lays "MotionFloorModel$Hall" "MotionFloorModel$Hall" "adopted" "I", .lays "MotionFloorModel$Hall" "MotionFloorModel$Hall" "why" "I", .laysFinal "MotionFloorModel$Hall" "MotionFloorModel$Hall" "isThere" "[Z", .laysFinal "MotionFloorModel$Hall" "MotionFloorModel$Hall" "majority" "[I", .laysFinal "MotionFloorModel$Hall" "MotionFloorModel$Hall" "used" "[Z", .laysFinal "MotionFloorModel$Hall" "MotionFloorModel$Hall" "kind" "[I", .laysFinal "MotionFloorModel$Hall" "MotionFloorModel$Hall" "mover" "[I", .laysFinal "MotionFloorModel$Hall" "MotionFloorModel$Hall" "seconder" "[I", .laysFinal "MotionFloorModel$Hall" "MotionFloorModel$Hall" "floors" "[I", .laysFinal "MotionFloorModel$Hall" "MotionFloorModel$Hall" "speeches" "[I", .laysFinal "MotionFloorModel$Hall" "MotionFloorModel$Hall" "words" "[I", .laysFinal "MotionFloorModel$Hall" "MotionFloorModel$Hall" "from" "[I", .laysFinal "MotionFloorModel$Hall" "MotionFloorModel$Hall" "to" "[I", .laysFinal "MotionFloorModel$Hall" "MotionFloorModel$Hall" "self" "[I", .laysFinal "MotionFloorModel$Hall" "MotionFloorModel$Hall" "subject" "[I", .laysFinal "MotionFloorModel$Hall" "MotionFloorModel$Hall" "closed" "[Z", .laysFinal "MotionFloorModel$Hall" "MotionFloorModel$Hall" "laid" "[Z", .laysFinal "MotionFloorModel$Hall" "MotionFloorModel$Hall" "outside" "[Z", .laysFinal "MotionFloorModel$Hall" "MotionFloorModel$Hall" "letter" "[Z", .laysFinal "MotionFloorModel$Hall" "MotionFloorModel$Hall" "text" "[I", .laysFinal "MotionFloorModel$Hall" "MotionFloorModel$Hall" "ballot" "[B", .lays "MotionFloorModel$Hall" "MotionFloorModel$Hall" "born" "I", .laysFinal "MotionFloorModel$Hall" "MotionFloorModel$Hall" "row" "[I", .laysFinal "MotionFloorModel$Hall" "MotionFloorModel$Hall" "draft" "[I", .laysFinal "MotionFloorModel$Hall" "MotionFloorModel$Hall" "desk" "[I", .laysFinal "MotionFloorModel$Hall" "MotionFloorModel$Hall" "lying" "[I", .lays "MotionFloorModel$Hall" "MotionFloorModel$Hall" "drafted" "I", .lays "MotionFloorModel$Hall" "MotionFloorModel$Hall" "draftTabled" "Z", .laysFinal "MotionFloorModel$Hall" "MotionFloorModel$Hall" "tabled" "[Z", .laysFinal "MotionFloorModel$Hall" "MotionFloorModel$Hall" "last" "[I", .lays "MotionFloorModel$Hall" "MotionFloorModel$Hall" "lastWords" "I", .laysFinal "MotionFloorModel$Hall" "MotionFloorModel$Hall" "minutes" "[I", .laysFinal "MotionFloorModel$Hall" "MotionFloorModel$Hall" "result" "[I"]
  exact wGc z465 (wGc z466 (wGc z467 (wGc z468 (wGc z469 (wGc z470 (wGc z471 (wGc z472 (wGc z473 (wGc z474 (wGc z475 (wGc z476 (wGc z477 (wGc z478 (wGc z479 (wGc z480 (wGc z481 (wGc z482 (wGc z483 (wGc z484 (wGc z485 (wGc z486 (wGc z487 (wGc z488 (wGc z489 (wGc z490 (wGc z491 (wGc z492 (wGc z493 (wGc z494 (wGc z495 (wGc z496 (wGc z497 (wGc z498 (wGc z499 (wGc z500 (wGc z501 (wGc z502 (wGc z503 (wGc z504 (wGc z505 (wGc z506 (wG0))))))))))))))))))))))))))))))))))))))))))
set_option maxRecDepth 100000 in
theorem z507 : wZ (.fieldLink RX11 93 "MotionFloorModel$Hall" "result" "[I") := ⟨List.mem_append_right _ (List.mem_of_getElem? (i := 1069) (by decide +kernel)), Or.inl rfl⟩
set_option maxRecDepth 100000 in
theorem z508 : wZ (.fieldLink RX11 90 "MotionFloorModel$Hall" "minutes" "[I") := ⟨List.mem_append_right _ (List.mem_of_getElem? (i := 1067) (by decide +kernel)), Or.inl rfl⟩
set_option maxRecDepth 100000 in
theorem z509 : wZ (.fieldLink RX11 87 "MotionFloorModel$Hall" "last" "[I") := ⟨List.mem_append_right _ (List.mem_of_getElem? (i := 1064) (by decide +kernel)), Or.inl rfl⟩
set_option maxRecDepth 100000 in
theorem z510 : wZ (.fieldLink RX11 84 "MotionFloorModel$Hall" "tabled" "[Z") := ⟨List.mem_append_right _ (List.mem_of_getElem? (i := 1062) (by decide +kernel)), Or.inl rfl⟩
set_option maxRecDepth 100000 in
theorem z511 : wZ (.fieldLink RX11 81 "MotionFloorModel$Hall" "lying" "[I") := ⟨List.mem_append_right _ (List.mem_of_getElem? (i := 1056) (by decide +kernel)), Or.inl rfl⟩
set_option maxRecDepth 100000 in
theorem z512 : wZ (.fieldLink RX11 78 "MotionFloorModel$Hall" "desk" "[I") := ⟨List.mem_append_right _ (List.mem_of_getElem? (i := 1054) (by decide +kernel)), Or.inl rfl⟩
set_option maxRecDepth 100000 in
theorem z513 : wZ (.fieldLink RX11 75 "MotionFloorModel$Hall" "draft" "[I") := ⟨List.mem_append_right _ (List.mem_of_getElem? (i := 1052) (by decide +kernel)), Or.inl rfl⟩
set_option maxRecDepth 100000 in
theorem z514 : wZ (.fieldLink RX11 72 "MotionFloorModel$Hall" "row" "[I") := ⟨List.mem_append_right _ (List.mem_of_getElem? (i := 1050) (by decide +kernel)), Or.inl rfl⟩
set_option maxRecDepth 100000 in
theorem z515 : wZ (.fieldLink RX11 68 "MotionFloorModel$Hall" "ballot" "[B") := ⟨List.mem_append_right _ (List.mem_of_getElem? (i := 1047) (by decide +kernel)), Or.inl rfl⟩
set_option maxRecDepth 100000 in
theorem z516 : wZ (.fieldLink RX11 65 "MotionFloorModel$Hall" "text" "[I") := ⟨List.mem_append_right _ (List.mem_of_getElem? (i := 1045) (by decide +kernel)), Or.inl rfl⟩
set_option maxRecDepth 100000 in
theorem z517 : wZ (.constant RX11 64 36000) := ⟨List.mem_append_right _ (List.mem_of_getElem? (i := 993) (by decide +kernel)), Or.inl rfl⟩
set_option maxRecDepth 100000 in
theorem z518 : wZ (.fieldLink RX11 61 "MotionFloorModel$Hall" "letter" "[Z") := ⟨List.mem_append_right _ (List.mem_of_getElem? (i := 1043) (by decide +kernel)), Or.inl rfl⟩
set_option maxRecDepth 100000 in
theorem z519 : wZ (.fieldLink RX11 58 "MotionFloorModel$Hall" "outside" "[Z") := ⟨List.mem_append_right _ (List.mem_of_getElem? (i := 1041) (by decide +kernel)), Or.inl rfl⟩
set_option maxRecDepth 100000 in
theorem z520 : wZ (.fieldLink RX11 55 "MotionFloorModel$Hall" "laid" "[Z") := ⟨List.mem_append_right _ (List.mem_of_getElem? (i := 1040) (by decide +kernel)), Or.inl rfl⟩
set_option maxRecDepth 100000 in
theorem z521 : wZ (.fieldLink RX11 52 "MotionFloorModel$Hall" "closed" "[Z") := ⟨List.mem_append_right _ (List.mem_of_getElem? (i := 1038) (by decide +kernel)), Or.inl rfl⟩
set_option maxRecDepth 100000 in
theorem z522 : wZ (.fieldLink RX11 49 "MotionFloorModel$Hall" "subject" "[I") := ⟨List.mem_append_right _ (List.mem_of_getElem? (i := 1037) (by decide +kernel)), Or.inl rfl⟩
set_option maxRecDepth 100000 in
theorem z523 : wZ (.fieldLink RX11 46 "MotionFloorModel$Hall" "self" "[I") := ⟨List.mem_append_right _ (List.mem_of_getElem? (i := 1036) (by decide +kernel)), Or.inl rfl⟩
set_option maxRecDepth 100000 in
theorem z524 : wZ (.fieldLink RX11 43 "MotionFloorModel$Hall" "to" "[I") := ⟨List.mem_append_right _ (List.mem_of_getElem? (i := 1034) (by decide +kernel)), Or.inl rfl⟩
set_option maxRecDepth 100000 in
theorem z525 : wZ (.fieldLink RX11 40 "MotionFloorModel$Hall" "from" "[I") := ⟨List.mem_append_right _ (List.mem_of_getElem? (i := 1032) (by decide +kernel)), Or.inl rfl⟩
set_option maxRecDepth 100000 in
theorem z526 : wZ (.fieldLink RX11 37 "MotionFloorModel$Hall" "words" "[I") := ⟨List.mem_append_right _ (List.mem_of_getElem? (i := 1030) (by decide +kernel)), Or.inl rfl⟩
set_option maxRecDepth 100000 in
theorem z527 : wZ (.fieldLink RX11 34 "MotionFloorModel$Hall" "speeches" "[I") := ⟨List.mem_append_right _ (List.mem_of_getElem? (i := 1028) (by decide +kernel)), Or.inl rfl⟩
set_option maxRecDepth 100000 in
theorem z528 : wZ (.fieldLink RX11 31 "MotionFloorModel$Hall" "floors" "[I") := ⟨List.mem_append_right _ (List.mem_of_getElem? (i := 1026) (by decide +kernel)), Or.inl rfl⟩
set_option maxRecDepth 100000 in
theorem z529 : wZ (.fieldLink RX11 28 "MotionFloorModel$Hall" "seconder" "[I") := ⟨List.mem_append_right _ (List.mem_of_getElem? (i := 1024) (by decide +kernel)), Or.inl rfl⟩
set_option maxRecDepth 100000 in
theorem z530 : wZ (.fieldLink RX11 25 "MotionFloorModel$Hall" "mover" "[I") := ⟨List.mem_append_right _ (List.mem_of_getElem? (i := 1022) (by decide +kernel)), Or.inl rfl⟩
set_option maxRecDepth 100000 in
theorem z531 : wZ (.fieldLink RX11 22 "MotionFloorModel$Hall" "kind" "[I") := ⟨List.mem_append_right _ (List.mem_of_getElem? (i := 1020) (by decide +kernel)), Or.inl rfl⟩
set_option maxRecDepth 100000 in
theorem z532 : wZ (.fieldLink RX11 19 "MotionFloorModel$Hall" "used" "[Z") := ⟨List.mem_append_right _ (List.mem_of_getElem? (i := 1019) (by decide +kernel)), Or.inl rfl⟩
set_option maxRecDepth 100000 in
theorem z533 : wZ (.fieldLink RX11 15 "MotionFloorModel$Hall" "majority" "[I") := ⟨List.mem_append_right _ (List.mem_of_getElem? (i := 1018) (by decide +kernel)), Or.inl rfl⟩
set_option maxRecDepth 100000 in
theorem z534 : wZ (.fieldLink RX11 9 "MotionFloorModel$Hall" "isThere" "[Z") := ⟨List.mem_append_right _ (List.mem_of_getElem? (i := 1016) (by decide +kernel)), Or.inl rfl⟩
set_option maxRecDepth 100000 in
theorem z535 : wZ (.methodLink RX11 3 objectInit) := ⟨List.mem_append_right _ (List.mem_of_getElem? (i := 992) (by decide +kernel)), Or.inl rfl⟩
set_option maxRecDepth 100000 in
theorem z536 : wZ (.code yX11_init cX11_init 1 none) := ⟨List.mem_append_right _ (List.mem_of_getElem? (i := 991) (by decide +kernel)), Or.inl rfl⟩
set_option maxRecDepth 100000 in
theorem z537 : wZ (.fieldLink RX11 133 "MotionFloorModel$Hall" "lastWords" "I") := ⟨List.mem_append_right _ (List.mem_of_getElem? (i := 1065) (by decide +kernel)), Or.inl rfl⟩
set_option maxRecDepth 100000 in
theorem z538 : wZ (.fieldLink RX11 130 "MotionFloorModel$Hall" "drafted" "I") := ⟨List.mem_append_right _ (List.mem_of_getElem? (i := 1058) (by decide +kernel)), Or.inl rfl⟩
set_option maxRecDepth 100000 in
theorem z539 : wZ (.fieldLink RX11 127 "MotionFloorModel$Hall" "why" "I") := ⟨List.mem_append_right _ (List.mem_of_getElem? (i := 1014) (by decide +kernel)), Or.inl rfl⟩
set_option maxRecDepth 100000 in
theorem z540 : wZ (.fieldLink RX11 124 "MotionFloorModel$Hall" "adopted" "I") := ⟨List.mem_append_right _ (List.mem_of_getElem? (i := 1012) (by decide +kernel)), Or.inl rfl⟩
set_option maxRecDepth 100000 in
theorem z541 : wZ (.fieldLink RX11 121 "MotionFloorModel$Hall" "results" "I") := ⟨List.mem_append_right _ (List.mem_of_getElem? (i := 1010) (by decide +kernel)), Or.inl rfl⟩
set_option maxRecDepth 100000 in
theorem z542 : wZ (.fieldLink RX11 118 "MotionFloorModel$Hall" "entries" "I") := ⟨List.mem_append_right _ (List.mem_of_getElem? (i := 1008) (by decide +kernel)), Or.inl rfl⟩
set_option maxRecDepth 100000 in
theorem z543 : wZ (.fieldLink RX11 115 "MotionFloorModel$Hall" "pending" "I") := ⟨List.mem_append_right _ (List.mem_of_getElem? (i := 1006) (by decide +kernel)), Or.inl rfl⟩
set_option maxRecDepth 100000 in
theorem z544 : wZ (.fieldLink RX11 112 "MotionFloorModel$Hall" "floor" "I") := ⟨List.mem_append_right _ (List.mem_of_getElem? (i := 1004) (by decide +kernel)), Or.inl rfl⟩
set_option maxRecDepth 100000 in
theorem z545 : wZ (.fieldLink RX11 109 "MotionFloorModel$Hall" "limit" "I") := ⟨List.mem_append_right _ (List.mem_of_getElem? (i := 1002) (by decide +kernel)), Or.inl rfl⟩
set_option maxRecDepth 100000 in
theorem z546 : wZ (.fieldLink RX11 106 "MotionFloorModel$Hall" "quorum" "I") := ⟨List.mem_append_right _ (List.mem_of_getElem? (i := 1000) (by decide +kernel)), Or.inl rfl⟩
set_option maxRecDepth 100000 in
theorem z547 : wZ (.fieldLink RX11 103 "MotionFloorModel$Hall" "chair" "I") := ⟨List.mem_append_right _ (List.mem_of_getElem? (i := 998) (by decide +kernel)), Or.inl rfl⟩
set_option maxRecDepth 100000 in
theorem z548 : wZ (.fieldLink RX11 100 "MotionFloorModel$Hall" "there" "I") := ⟨List.mem_append_right _ (List.mem_of_getElem? (i := 996) (by decide +kernel)), Or.inl rfl⟩
set_option maxRecDepth 100000 in
theorem z549 : wZ (.fieldLink RX11 96 "MotionFloorModel$Hall" "seats" "I") := ⟨List.mem_append_right _ (List.mem_of_getElem? (i := 994) (by decide +kernel)), Or.inl rfl⟩
set_option maxRecDepth 100000 in
theorem z550 : wZ (.code yX11_begin cX11_begin 3 none) := ⟨List.mem_append_right _ (List.mem_of_getElem? (i := 1159) (by decide +kernel)), Or.inl rfl⟩
set_option maxRecDepth 100000 in
theorem z551 : wZ (.laysFinal "MotionFloorModel" "MotionFloorModel" "hall" "LMotionFloorModel$Hall;") := ⟨List.mem_append_right _ (List.mem_of_getElem? (i := 1167) (by decide +kernel)), Or.inl rfl⟩
set_option maxRecDepth 100000 in
theorem z552 : wZ (.laysFinal "MotionFloorModel" "MotionFloorModel" "spare" "LMotionFloorModel$Hall;") := ⟨List.mem_append_right _ (List.mem_of_getElem? (i := 1169) (by decide +kernel)), Or.inl rfl⟩
set_option maxRecDepth 100000 in
theorem z553 : wZ (.laysFinal "MotionFloorModel" "MotionFloorModel" "imageSeats" "[I") := ⟨List.mem_append_right _ (List.mem_of_getElem? (i := 1171) (by decide +kernel)), Or.inl rfl⟩
set_option maxRecDepth 100000 in
theorem z554 : wZ (.laysFinal "MotionFloorModel" "MotionFloorModel" "imageEntries" "[I") := ⟨List.mem_append_right _ (List.mem_of_getElem? (i := 1173) (by decide +kernel)), Or.inl rfl⟩
set_option maxRecDepth 100000 in
theorem z555 : wZ (.laysFinal "MotionFloorModel" "MotionFloorModel" "images" "[I") := ⟨List.mem_append_right _ (List.mem_of_getElem? (i := 1175) (by decide +kernel)), Or.inl rfl⟩
set_option maxRecDepth 100000 in
theorem z556 : wZ (.laysFinal "MotionFloorModel" "MotionFloorModel" "told" "[I") := ⟨List.mem_append_right _ (List.mem_of_getElem? (i := 1177) (by decide +kernel)), Or.inl rfl⟩
set_option maxRecDepth 100000 in
theorem z557 : wZ (.lays "MotionFloorModel" "MotionFloorModel" "tolds" "I") := ⟨List.mem_append_right _ (List.mem_of_getElem? (i := 1179) (by decide +kernel)), Or.inl rfl⟩
theorem zcX12 : GoodIn lw_tbl wsX120 := by
  show GoodIn lw_tbl [.laysFinal "MotionFloorModel" "MotionFloorModel" "hall" "LMotionFloorModel$Hall;", .laysFinal "MotionFloorModel" "MotionFloorModel" "spare" "LMotionFloorModel$Hall;", .laysFinal "MotionFloorModel" "MotionFloorModel" "imageSeats" "[I", .laysFinal "MotionFloorModel" "MotionFloorModel" "imageEntries" "[I", .laysFinal "MotionFloorModel" "MotionFloorModel" "images" "[I", .laysFinal "MotionFloorModel" "MotionFloorModel" "told" "[I", .lays "MotionFloorModel" "MotionFloorModel" "tolds" "I"]
  exact wGc z551 (wGc z552 (wGc z553 (wGc z554 (wGc z555 (wGc z556 (wGc z557 (wG0)))))))
set_option maxRecDepth 100000 in
theorem z558 : wZ (.selects RX11 yX11_begin yX11_begin) := ⟨List.mem_append_right _ (List.mem_of_getElem? (i := 1158) (by decide +kernel)), Or.inl rfl⟩
set_option maxRecDepth 100000 in
theorem z559 : wZ (.instanceMethod yX11_begin) := ⟨List.mem_append_right _ (List.mem_of_getElem? (i := 1157) (by decide +kernel)), Or.inl rfl⟩
set_option maxRecDepth 100000 in
theorem z560 : wZ (.methodLink RX12 36 yX11_begin) := ⟨List.mem_append_right _ (List.mem_of_getElem? (i := 1156) (by decide +kernel)), Or.inl rfl⟩
set_option maxRecDepth 100000 in
theorem z561 : wZ (.fieldLink RX12 33 "MotionFloorModel" "told" "[I") := ⟨List.mem_append_right _ (List.mem_of_getElem? (i := 1165) (by decide +kernel)), Or.inl rfl⟩
set_option maxRecDepth 100000 in
theorem z562 : wZ (.fieldLink RX12 30 "MotionFloorModel" "images" "[I") := ⟨List.mem_append_right _ (List.mem_of_getElem? (i := 1164) (by decide +kernel)), Or.inl rfl⟩
set_option maxRecDepth 100000 in
theorem z563 : wZ (.fieldLink RX12 27 "MotionFloorModel" "imageEntries" "[I") := ⟨List.mem_append_right _ (List.mem_of_getElem? (i := 1163) (by decide +kernel)), Or.inl rfl⟩
set_option maxRecDepth 100000 in
theorem z564 : wZ (.fieldLink RX12 23 "MotionFloorModel" "imageSeats" "[I") := ⟨List.mem_append_right _ (List.mem_of_getElem? (i := 1162) (by decide +kernel)), Or.inl rfl⟩
set_option maxRecDepth 100000 in
theorem z565 : wZ (.fieldLink RX12 20 "MotionFloorModel" "spare" "LMotionFloorModel$Hall;") := ⟨List.mem_append_right _ (List.mem_of_getElem? (i := 1161) (by decide +kernel)), Or.inl rfl⟩
set_option maxRecDepth 100000 in
theorem z566 : wZ (.fieldLink RX12 16 "MotionFloorModel" "hall" "LMotionFloorModel$Hall;") := ⟨List.mem_append_right _ (List.mem_of_getElem? (i := 1160) (by decide +kernel)), Or.inl rfl⟩
set_option maxRecDepth 100000 in
theorem z567 : wZ (.instanceMethod yX11_init) := ⟨List.mem_append_right _ (List.mem_of_getElem? (i := 990) (by decide +kernel)), Or.inl rfl⟩
set_option maxRecDepth 100000 in
theorem z568 : wZ (.initialized RX11) := ⟨List.mem_append_right _ (List.mem_of_getElem? (i := 11) (by decide +kernel)), Or.inl rfl⟩
set_option maxRecDepth 100000 in
theorem z569 : wZ (.instantiable RX11 42) := ⟨List.mem_append_right _ (List.mem_of_getElem? (i := 988) (by decide +kernel)), Or.inl rfl⟩
set_option maxRecDepth 100000 in
theorem z570 : wZ (.classLink RX12 13 RX11) := ⟨List.mem_append_right _ (List.mem_of_getElem? (i := 987) (by decide +kernel)), Or.inl rfl⟩
set_option maxRecDepth 100000 in
theorem z571 : wZ (.methodLink RX12 7 objectInit) := ⟨List.mem_append_right _ (List.mem_of_getElem? (i := 986) (by decide +kernel)), Or.inl rfl⟩
set_option maxRecDepth 100000 in
theorem z572 : wZ (.code yX12_init cX12_init 1 none) := ⟨List.mem_append_right _ (List.mem_of_getElem? (i := 985) (by decide +kernel)), Or.inl rfl⟩
set_option maxRecDepth 100000 in
theorem z573 : wZ (.code yX12_in cX12_in 3 (some .boolean)) := ⟨List.mem_append_right _ (List.mem_of_getElem? (i := 1188) (by decide +kernel)), Or.inl rfl⟩
set_option maxRecDepth 100000 in
theorem z574 : wZ (.initialized RX12) := ⟨List.mem_append_right _ (List.mem_of_getElem? (i := 10) (by decide +kernel)), Or.inl rfl⟩
set_option maxRecDepth 100000 in
theorem z575 : wZ (.static yX12_in) := ⟨List.mem_append_right _ (List.mem_of_getElem? (i := 1187) (by decide +kernel)), Or.inl rfl⟩
set_option maxRecDepth 100000 in
theorem z576 : wZ (.methodLink RX12 1 yX12_in) := ⟨List.mem_append_right _ (List.mem_of_getElem? (i := 1186) (by decide +kernel)), Or.inl rfl⟩
set_option maxRecDepth 100000 in
theorem z577 : wZ (.code yX12_seats cX12_seats 2 (some .int)) := ⟨List.mem_append_right _ (List.mem_of_getElem? (i := 1185) (by decide +kernel)), Or.inl rfl⟩
set_option maxRecDepth 100000 in
theorem z578 : wZ (.code yX11_isSeat cX11_isSeat 2 (some .boolean)) := ⟨List.mem_append_right _ (List.mem_of_getElem? (i := 1204) (by decide +kernel)), Or.inl rfl⟩
set_option maxRecDepth 100000 in
theorem z579 : wZ (.selects RX11 yX11_isSeat yX11_isSeat) := ⟨List.mem_append_left _ (List.mem_of_getElem? (i := 3) (by decide +kernel)), Or.inl rfl⟩
set_option maxRecDepth 100000 in
theorem z580 : wZ (.instanceMethod yX11_isSeat) := ⟨List.mem_append_right _ (List.mem_of_getElem? (i := 1203) (by decide +kernel)), Or.inl rfl⟩
set_option maxRecDepth 100000 in
theorem z581 : wZ (.methodLink RX11 140 yX11_isSeat) := ⟨List.mem_append_right _ (List.mem_of_getElem? (i := 1201) (by decide +kernel)), Or.inl rfl⟩
set_option maxRecDepth 100000 in
theorem z582 : wZ (.code yX11_reason cX11_reason 6 (some .int)) := ⟨List.mem_append_right _ (List.mem_of_getElem? (i := 1200) (by decide +kernel)), Or.inl rfl⟩
set_option maxRecDepth 100000 in
theorem z583 : wZ (.code yX11_does cX11_does 7 (some .int)) := ⟨List.mem_append_right _ (List.mem_of_getElem? (i := 1256) (by decide +kernel)), Or.inl rfl⟩
set_option maxRecDepth 100000 in
theorem z584 : wZ (.code yX12_numbers cX12_numbers 1 (some .int)) := ⟨List.mem_append_right _ (List.mem_of_getElem? (i := 1315) (by decide +kernel)), Or.inl rfl⟩
set_option maxRecDepth 100000 in
theorem z585 : wZ (.static yX12_numbers) := ⟨List.mem_append_right _ (List.mem_of_getElem? (i := 1314) (by decide +kernel)), Or.inl rfl⟩
set_option maxRecDepth 100000 in
theorem z586 : wZ (.selects RX11 yX11_does yX11_does) := ⟨List.mem_append_left _ (List.mem_of_getElem? (i := 13) (by decide +kernel)), Or.inl rfl⟩
set_option maxRecDepth 100000 in
theorem z587 : wZ (.instanceMethod yX11_does) := ⟨List.mem_append_right _ (List.mem_of_getElem? (i := 1255) (by decide +kernel)), Or.inl rfl⟩
set_option maxRecDepth 100000 in
theorem z588 : wZ (.methodLink RX11 200 yX11_does) := ⟨List.mem_append_right _ (List.mem_of_getElem? (i := 1253) (by decide +kernel)), Or.inl rfl⟩
set_option maxRecDepth 100000 in
theorem z589 : wZ (.selects RX11 yX11_reason yX11_reason) := ⟨List.mem_append_left _ (List.mem_of_getElem? (i := 2) (by decide +kernel)), Or.inl rfl⟩
set_option maxRecDepth 100000 in
theorem z590 : wZ (.instanceMethod yX11_reason) := ⟨List.mem_append_right _ (List.mem_of_getElem? (i := 1199) (by decide +kernel)), Or.inl rfl⟩
set_option maxRecDepth 100000 in
theorem z591 : wZ (.methodLink RX11 196 yX11_reason) := ⟨List.mem_append_right _ (List.mem_of_getElem? (i := 1197) (by decide +kernel)), Or.inl rfl⟩
set_option maxRecDepth 100000 in
theorem z592 : wZ (.code yX11_act cX11_act 10 (some .int)) := ⟨List.mem_append_right _ (List.mem_of_getElem? (i := 1196) (by decide +kernel)), Or.inl rfl⟩
set_option maxRecDepth 100000 in
theorem z593 : wZ (.selects RX11 yX11_act yX11_act) := ⟨List.mem_append_right _ (List.mem_of_getElem? (i := 1195) (by decide +kernel)), Or.inl rfl⟩
set_option maxRecDepth 100000 in
theorem z594 : wZ (.instanceMethod yX11_act) := ⟨List.mem_append_right _ (List.mem_of_getElem? (i := 1194) (by decide +kernel)), Or.inl rfl⟩
set_option maxRecDepth 100000 in
theorem z595 : wZ (.methodLink RX12 40 yX11_act) := ⟨List.mem_append_right _ (List.mem_of_getElem? (i := 1193) (by decide +kernel)), Or.inl rfl⟩
set_option maxRecDepth 100000 in
theorem z596 : wZ (.code yX12_there cX12_there 2 (some .int)) := ⟨List.mem_append_right _ (List.mem_of_getElem? (i := 1192) (by decide +kernel)), Or.inl rfl⟩
set_option maxRecDepth 100000 in
theorem z597 : wZ (.code yX12_gone cX12_gone 2 (some .int)) := ⟨List.mem_append_right _ (List.mem_of_getElem? (i := 1319) (by decide +kernel)), Or.inl rfl⟩
set_option maxRecDepth 100000 in
theorem z598 : wZ (.code yX12_quorum cX12_quorum 2 (some .int)) := ⟨List.mem_append_right _ (List.mem_of_getElem? (i := 1323) (by decide +kernel)), Or.inl rfl⟩
set_option maxRecDepth 100000 in
theorem z599 : wZ (.code yX12_chair cX12_chair 2 (some .int)) := ⟨List.mem_append_right _ (List.mem_of_getElem? (i := 1327) (by decide +kernel)), Or.inl rfl⟩
set_option maxRecDepth 100000 in
theorem z600 : wZ (.code yX12_majority cX12_majority 3 (some .int)) := ⟨List.mem_append_right _ (List.mem_of_getElem? (i := 1331) (by decide +kernel)), Or.inl rfl⟩
set_option maxRecDepth 100000 in
theorem z601 : wZ (.code yX12_limit cX12_limit 2 (some .int)) := ⟨List.mem_append_right _ (List.mem_of_getElem? (i := 1335) (by decide +kernel)), Or.inl rfl⟩
set_option maxRecDepth 100000 in
theorem z602 : wZ (.code yX12_floor cX12_floor 2 (some .int)) := ⟨List.mem_append_right _ (List.mem_of_getElem? (i := 1339) (by decide +kernel)), Or.inl rfl⟩
set_option maxRecDepth 100000 in
theorem z603 : wZ (.code yX12_cede cX12_cede 1 (some .int)) := ⟨List.mem_append_right _ (List.mem_of_getElem? (i := 1343) (by decide +kernel)), Or.inl rfl⟩
set_option maxRecDepth 100000 in
theorem z604 : wZ (.code yX12_debate cX12_debate 2 (some .int)) := ⟨List.mem_append_right _ (List.mem_of_getElem? (i := 1347) (by decide +kernel)), Or.inl rfl⟩
set_option maxRecDepth 100000 in
theorem z605 : wZ (.code yX11_dropDraft cX11_dropDraft 2 none) := ⟨List.mem_append_right _ (List.mem_of_getElem? (i := 1260) (by decide +kernel)), Or.inl rfl⟩
set_option maxRecDepth 100000 in
theorem z606 : wZ (.fieldLink RX11 148 "MotionFloorModel$Hall" "born" "I") := ⟨List.mem_append_right _ (List.mem_of_getElem? (i := 1049) (by decide +kernel)), Or.inl rfl⟩
set_option maxRecDepth 100000 in
theorem z607 : wZ (.code yX11_anew cX11_anew 3 none) := ⟨List.mem_append_right _ (List.mem_of_getElem? (i := 1268) (by decide +kernel)), Or.inl rfl⟩
set_option maxRecDepth 100000 in
theorem z608 : wZ (.selects RX11 yX11_anew yX11_anew) := ⟨List.mem_append_left _ (List.mem_of_getElem? (i := 16) (by decide +kernel)), Or.inl rfl⟩
set_option maxRecDepth 100000 in
theorem z609 : wZ (.instanceMethod yX11_anew) := ⟨List.mem_append_right _ (List.mem_of_getElem? (i := 1267) (by decide +kernel)), Or.inl rfl⟩
set_option maxRecDepth 100000 in
theorem z610 : wZ (.methodLink RX11 144 yX11_anew) := ⟨List.mem_append_right _ (List.mem_of_getElem? (i := 1265) (by decide +kernel)), Or.inl rfl⟩
set_option maxRecDepth 100000 in
theorem z611 : wZ (.code yX11_newSlot cX11_newSlot 3 (some .int)) := ⟨List.mem_append_right _ (List.mem_of_getElem? (i := 1264) (by decide +kernel)), Or.inl rfl⟩
set_option maxRecDepth 100000 in
theorem z612 : wZ (.fieldLink RX11 151 "MotionFloorModel$Hall" "draftTabled" "Z") := ⟨List.mem_append_right _ (List.mem_of_getElem? (i := 1060) (by decide +kernel)), Or.inl rfl⟩
set_option maxRecDepth 100000 in
theorem z613 : wZ (.selects RX11 yX11_newSlot yX11_newSlot) := ⟨List.mem_append_left _ (List.mem_of_getElem? (i := 15) (by decide +kernel)), Or.inl rfl⟩
set_option maxRecDepth 100000 in
theorem z614 : wZ (.instanceMethod yX11_newSlot) := ⟨List.mem_append_right _ (List.mem_of_getElem? (i := 1263) (by decide +kernel)), Or.inl rfl⟩
set_option maxRecDepth 100000 in
theorem z615 : wZ (.methodLink RX11 209 yX11_newSlot) := ⟨List.mem_append_right _ (List.mem_of_getElem? (i := 1261) (by decide +kernel)), Or.inl rfl⟩
set_option maxRecDepth 100000 in
theorem z616 : wZ (.selects RX11 yX11_dropDraft yX11_dropDraft) := ⟨List.mem_append_left _ (List.mem_of_getElem? (i := 14) (by decide +kernel)), Or.inl rfl⟩
set_option maxRecDepth 100000 in
theorem z617 : wZ (.instanceMethod yX11_dropDraft) := ⟨List.mem_append_right _ (List.mem_of_getElem? (i := 1259) (by decide +kernel)), Or.inl rfl⟩
set_option maxRecDepth 100000 in
theorem z618 : wZ (.methodLink RX11 206 yX11_dropDraft) := ⟨List.mem_append_right _ (List.mem_of_getElem? (i := 1257) (by decide +kernel)), Or.inl rfl⟩
set_option maxRecDepth 100000 in
theorem z619 : wZ (.code yX12_draft cX12_draft 2 (some .int)) := ⟨List.mem_append_right _ (List.mem_of_getElem? (i := 1351) (by decide +kernel)), Or.inl rfl⟩
set_option maxRecDepth 100000 in
theorem z620 : wZ (.code yX11_hasDraft cX11_hasDraft 3 (some .boolean)) := ⟨List.mem_append_right _ (List.mem_of_getElem? (i := 1217) (by decide +kernel)), Or.inl rfl⟩
set_option maxRecDepth 100000 in
theorem z621 : wZ (.selects RX11 yX11_hasDraft yX11_hasDraft) := ⟨List.mem_append_left _ (List.mem_of_getElem? (i := 5) (by decide +kernel)), Or.inl rfl⟩
set_option maxRecDepth 100000 in
theorem z622 : wZ (.instanceMethod yX11_hasDraft) := ⟨List.mem_append_right _ (List.mem_of_getElem? (i := 1216) (by decide +kernel)), Or.inl rfl⟩
set_option maxRecDepth 100000 in
theorem z623 : wZ (.methodLink RX11 163 yX11_hasDraft) := ⟨List.mem_append_right _ (List.mem_of_getElem? (i := 1214) (by decide +kernel)), Or.inl rfl⟩
set_option maxRecDepth 100000 in
theorem z624 : wZ (.code yX12_span cX12_span 3 (some .int)) := ⟨List.mem_append_right _ (List.mem_of_getElem? (i := 1355) (by decide +kernel)), Or.inl rfl⟩
set_option maxRecDepth 100000 in
theorem z625 : wZ (.code yX11_reasonOfWord cX11_reasonOfWord 6 (some .int)) := ⟨List.mem_append_right _ (List.mem_of_getElem? (i := 1221) (by decide +kernel)), Or.inl rfl⟩
set_option maxRecDepth 100000 in
theorem z626 : wZ (.selects RX11 yX11_reasonOfWord yX11_reasonOfWord) := ⟨List.mem_append_left _ (List.mem_of_getElem? (i := 6) (by decide +kernel)), Or.inl rfl⟩
set_option maxRecDepth 100000 in
theorem z627 : wZ (.instanceMethod yX11_reasonOfWord) := ⟨List.mem_append_right _ (List.mem_of_getElem? (i := 1220) (by decide +kernel)), Or.inl rfl⟩
set_option maxRecDepth 100000 in
theorem z628 : wZ (.methodLink RX11 167 yX11_reasonOfWord) := ⟨List.mem_append_right _ (List.mem_of_getElem? (i := 1218) (by decide +kernel)), Or.inl rfl⟩
set_option maxRecDepth 100000 in
theorem z629 : wZ (.code yX12_word cX12_word 5 (some .int)) := ⟨List.mem_append_right _ (List.mem_of_getElem? (i := 1359) (by decide +kernel)), Or.inl rfl⟩
set_option maxRecDepth 100000 in
theorem z630 : wZ (.code yX11_reasonOfLay cX11_reasonOfLay 2 (some .int)) := ⟨List.mem_append_right _ (List.mem_of_getElem? (i := 1228) (by decide +kernel)), Or.inl rfl⟩
set_option maxRecDepth 100000 in
theorem z631 : wZ (.selects RX11 yX11_reasonOfLay yX11_reasonOfLay) := ⟨List.mem_append_left _ (List.mem_of_getElem? (i := 7) (by decide +kernel)), Or.inl rfl⟩
set_option maxRecDepth 100000 in
theorem z632 : wZ (.instanceMethod yX11_reasonOfLay) := ⟨List.mem_append_right _ (List.mem_of_getElem? (i := 1227) (by decide +kernel)), Or.inl rfl⟩
set_option maxRecDepth 100000 in
theorem z633 : wZ (.methodLink RX11 171 yX11_reasonOfLay) := ⟨List.mem_append_right _ (List.mem_of_getElem? (i := 1225) (by decide +kernel)), Or.inl rfl⟩
set_option maxRecDepth 100000 in
theorem z634 : wZ (.code yX12_lay cX12_lay 2 (some .int)) := ⟨List.mem_append_right _ (List.mem_of_getElem? (i := 1363) (by decide +kernel)), Or.inl rfl⟩
set_option maxRecDepth 100000 in
theorem z635 : wZ (.code yX12_take cX12_take 2 (some .int)) := ⟨List.mem_append_right _ (List.mem_of_getElem? (i := 1367) (by decide +kernel)), Or.inl rfl⟩
set_option maxRecDepth 100000 in
theorem z636 : wZ (.code yX11_reasonOfMove cX11_reasonOfMove 7 (some .int)) := ⟨List.mem_append_right _ (List.mem_of_getElem? (i := 1244) (by decide +kernel)), Or.inl rfl⟩
set_option maxRecDepth 100000 in
theorem z637 : wZ (.selects RX11 yX11_reasonOfMove yX11_reasonOfMove) := ⟨List.mem_append_right _ (List.mem_of_getElem? (i := 1243) (by decide +kernel)), Or.inl rfl⟩
set_option maxRecDepth 100000 in
theorem z638 : wZ (.instanceMethod yX11_reasonOfMove) := ⟨List.mem_append_right _ (List.mem_of_getElem? (i := 1242) (by decide +kernel)), Or.inl rfl⟩
set_option maxRecDepth 100000 in
theorem z639 : wZ (.methodLink RX11 175 yX11_reasonOfMove) := ⟨List.mem_append_right _ (List.mem_of_getElem? (i := 1241) (by decide +kernel)), Or.inl rfl⟩
set_option maxRecDepth 100000 in
theorem z640 : wZ (.code yX12_move cX12_move 2 (some .int)) := ⟨List.mem_append_right _ (List.mem_of_getElem? (i := 1371) (by decide +kernel)), Or.inl rfl⟩
set_option maxRecDepth 100000 in
theorem z641 : wZ (.code yX12_second cX12_second 2 (some .int)) := ⟨List.mem_append_right _ (List.mem_of_getElem? (i := 1375) (by decide +kernel)), Or.inl rfl⟩
set_option maxRecDepth 100000 in
theorem z642 : wZ (.code yX12_vote cX12_vote 3 (some .int)) := ⟨List.mem_append_right _ (List.mem_of_getElem? (i := 1379) (by decide +kernel)), Or.inl rfl⟩
set_option maxRecDepth 100000 in
theorem z643 : wZ (.code yX12_withdraw cX12_withdraw 2 (some .int)) := ⟨List.mem_append_right _ (List.mem_of_getElem? (i := 1383) (by decide +kernel)), Or.inl rfl⟩
set_option maxRecDepth 100000 in
theorem z644 : wZ (.code yX11_isHere cX11_isHere 2 (some .boolean)) := ⟨List.mem_append_right _ (List.mem_of_getElem? (i := 1252) (by decide +kernel)), Or.inl rfl⟩
set_option maxRecDepth 100000 in
theorem z645 : wZ (.selects RX11 yX11_isHere yX11_isHere) := ⟨List.mem_append_left _ (List.mem_of_getElem? (i := 12) (by decide +kernel)), Or.inl rfl⟩
set_option maxRecDepth 100000 in
theorem z646 : wZ (.instanceMethod yX11_isHere) := ⟨List.mem_append_right _ (List.mem_of_getElem? (i := 1251) (by decide +kernel)), Or.inl rfl⟩
set_option maxRecDepth 100000 in
theorem z647 : wZ (.methodLink RX11 178 yX11_isHere) := ⟨List.mem_append_right _ (List.mem_of_getElem? (i := 1249) (by decide +kernel)), Or.inl rfl⟩
set_option maxRecDepth 100000 in
theorem z648 : wZ (.code yX12_rule cX12_rule 1 (some .int)) := ⟨List.mem_append_right _ (List.mem_of_getElem? (i := 1387) (by decide +kernel)), Or.inl rfl⟩
set_option maxRecDepth 100000 in
theorem z649 : wZ (.code yX12_appeal cX12_appeal 2 (some .int)) := ⟨List.mem_append_right _ (List.mem_of_getElem? (i := 1391) (by decide +kernel)), Or.inl rfl⟩
set_option maxRecDepth 100000 in
theorem z650 : wZ (.code yX12_told cX12_told 1 (some .int)) := ⟨List.mem_append_right _ (List.mem_of_getElem? (i := 1395) (by decide +kernel)), Or.inl rfl⟩
set_option maxRecDepth 100000 in
theorem z651 : wZ (.code yX12_adjourn cX12_adjourn 1 (some .int)) := ⟨List.mem_append_right _ (List.mem_of_getElem? (i := 1399) (by decide +kernel)), Or.inl rfl⟩
set_option maxRecDepth 100000 in
theorem z652 : wZ (.fieldLink RX12 52 "MotionFloorModel$Hall" "why" "I") := ⟨List.mem_append_right _ (List.mem_of_getElem? (i := 1015) (by decide +kernel)), Or.inl rfl⟩
set_option maxRecDepth 100000 in
theorem z653 : wZ (.methodLink RX12 44 yX11_reasonOfMove) := ⟨List.mem_append_right _ (List.mem_of_getElem? (i := 1404) (by decide +kernel)), Or.inl rfl⟩
set_option maxRecDepth 100000 in
theorem z654 : wZ (.code yX12_order cX12_order 3 (some .int)) := ⟨List.mem_append_right _ (List.mem_of_getElem? (i := 1403) (by decide +kernel)), Or.inl rfl⟩
set_option maxRecDepth 100000 in
theorem z655 : wZ (.code yX12_why cX12_why 1 (some .int)) := ⟨List.mem_append_right _ (List.mem_of_getElem? (i := 1408) (by decide +kernel)), Or.inl rfl⟩
set_option maxRecDepth 100000 in
theorem z656 : wZ (.fieldLink RX12 55 "MotionFloorModel$Hall" "pending" "I") := ⟨List.mem_append_right _ (List.mem_of_getElem? (i := 1007) (by decide +kernel)), Or.inl rfl⟩
set_option maxRecDepth 100000 in
theorem z657 : wZ (.code yX12_pending cX12_pending 4 (some .int)) := ⟨List.mem_append_right _ (List.mem_of_getElem? (i := 1412) (by decide +kernel)), Or.inl rfl⟩
set_option maxRecDepth 100000 in
theorem z658 : wZ (.code yX11_text cX11_text 4 (some .int)) := ⟨List.mem_append_right _ (List.mem_of_getElem? (i := 1421) (by decide +kernel)), Or.inl rfl⟩
set_option maxRecDepth 100000 in
theorem z659 : wZ (.selects RX11 yX11_text yX11_text) := ⟨List.mem_append_right _ (List.mem_of_getElem? (i := 1420) (by decide +kernel)), Or.inl rfl⟩
set_option maxRecDepth 100000 in
theorem z660 : wZ (.instanceMethod yX11_text) := ⟨List.mem_append_right _ (List.mem_of_getElem? (i := 1419) (by decide +kernel)), Or.inl rfl⟩
set_option maxRecDepth 100000 in
theorem z661 : wZ (.methodLink RX12 92 yX11_text) := ⟨List.mem_append_right _ (List.mem_of_getElem? (i := 1418) (by decide +kernel)), Or.inl rfl⟩
set_option maxRecDepth 100000 in
theorem z662 : wZ (.code yX12_text cX12_text 3 (some .int)) := ⟨List.mem_append_right _ (List.mem_of_getElem? (i := 1417) (by decide +kernel)), Or.inl rfl⟩
set_option maxRecDepth 100000 in
theorem z663 : wZ (.code yX12_ballot cX12_ballot 3 (some .int)) := ⟨List.mem_append_right _ (List.mem_of_getElem? (i := 1425) (by decide +kernel)), Or.inl rfl⟩
set_option maxRecDepth 100000 in
theorem z664 : wZ (.fieldLink RX12 107 "MotionFloorModel$Hall" "lying" "[I") := ⟨List.mem_append_right _ (List.mem_of_getElem? (i := 1057) (by decide +kernel)), Or.inl rfl⟩
set_option maxRecDepth 100000 in
theorem z665 : wZ (.code yX12_desk cX12_desk 6 (some .int)) := ⟨List.mem_append_right _ (List.mem_of_getElem? (i := 1430) (by decide +kernel)), Or.inl rfl⟩
set_option maxRecDepth 100000 in
theorem z666 : wZ (.code yX12_lying cX12_lying 4 (some .int)) := ⟨List.mem_append_right _ (List.mem_of_getElem? (i := 1434) (by decide +kernel)), Or.inl rfl⟩
set_option maxRecDepth 100000 in
theorem z667 : wZ (.fieldLink RX12 124 "MotionFloorModel$Hall" "results" "I") := ⟨List.mem_append_right _ (List.mem_of_getElem? (i := 1011) (by decide +kernel)), Or.inl rfl⟩
set_option maxRecDepth 100000 in
theorem z668 : wZ (.code yX12_result cX12_result 3 (some .int)) := ⟨List.mem_append_right _ (List.mem_of_getElem? (i := 1438) (by decide +kernel)), Or.inl rfl⟩
set_option maxRecDepth 100000 in
theorem z669 : wZ (.fieldLink RX12 161 "MotionFloorModel" "tolds" "I") := ⟨List.mem_append_right _ (List.mem_of_getElem? (i := 1166) (by decide +kernel)), Or.inl rfl⟩
set_option maxRecDepth 100000 in
theorem z670 : wZ (.fieldLink RX12 158 "MotionFloorModel$Hall" "adopted" "I") := ⟨List.mem_append_right _ (List.mem_of_getElem? (i := 1013) (by decide +kernel)), Or.inl rfl⟩
set_option maxRecDepth 100000 in
theorem z671 : wZ (.fieldLink RX12 155 "MotionFloorModel$Hall" "lastWords" "I") := ⟨List.mem_append_right _ (List.mem_of_getElem? (i := 1066) (by decide +kernel)), Or.inl rfl⟩
set_option maxRecDepth 100000 in
theorem z672 : wZ (.fieldLink RX12 48 "MotionFloorModel$Hall" "entries" "I") := ⟨List.mem_append_right _ (List.mem_of_getElem? (i := 1009) (by decide +kernel)), Or.inl rfl⟩
set_option maxRecDepth 100000 in
theorem z673 : wZ (.fieldLink RX12 145 "MotionFloorModel$Hall" "drafted" "I") := ⟨List.mem_append_right _ (List.mem_of_getElem? (i := 1059) (by decide +kernel)), Or.inl rfl⟩
set_option maxRecDepth 100000 in
theorem z674 : wZ (.fieldLink RX12 142 "MotionFloorModel$Hall" "floor" "I") := ⟨List.mem_append_right _ (List.mem_of_getElem? (i := 1005) (by decide +kernel)), Or.inl rfl⟩
set_option maxRecDepth 100000 in
theorem z675 : wZ (.fieldLink RX12 139 "MotionFloorModel$Hall" "limit" "I") := ⟨List.mem_append_right _ (List.mem_of_getElem? (i := 1003) (by decide +kernel)), Or.inl rfl⟩
set_option maxRecDepth 100000 in
theorem z676 : wZ (.fieldLink RX12 136 "MotionFloorModel$Hall" "quorum" "I") := ⟨List.mem_append_right _ (List.mem_of_getElem? (i := 1001) (by decide +kernel)), Or.inl rfl⟩
set_option maxRecDepth 100000 in
theorem z677 : wZ (.fieldLink RX12 133 "MotionFloorModel$Hall" "chair" "I") := ⟨List.mem_append_right _ (List.mem_of_getElem? (i := 999) (by decide +kernel)), Or.inl rfl⟩
set_option maxRecDepth 100000 in
theorem z678 : wZ (.fieldLink RX12 130 "MotionFloorModel$Hall" "there" "I") := ⟨List.mem_append_right _ (List.mem_of_getElem? (i := 997) (by decide +kernel)), Or.inl rfl⟩
set_option maxRecDepth 100000 in
theorem z679 : wZ (.fieldLink RX12 96 "MotionFloorModel$Hall" "seats" "I") := ⟨List.mem_append_right _ (List.mem_of_getElem? (i := 995) (by decide +kernel)), Or.inl rfl⟩
set_option maxRecDepth 100000 in
theorem z680 : wZ (.code yX12_count cX12_count 2 (some .int)) := ⟨List.mem_append_right _ (List.mem_of_getElem? (i := 1442) (by decide +kernel)), Or.inl rfl⟩
set_option maxRecDepth 100000 in
theorem z681 : wZ (.fieldLink RX12 164 "MotionFloorModel$Hall" "isThere" "[Z") := ⟨List.mem_append_right _ (List.mem_of_getElem? (i := 1017) (by decide +kernel)), Or.inl rfl⟩
set_option maxRecDepth 100000 in
theorem z682 : wZ (.code yX12_seat cX12_seat 2 (some .int)) := ⟨List.mem_append_right _ (List.mem_of_getElem? (i := 1446) (by decide +kernel)), Or.inl rfl⟩
set_option maxRecDepth 100000 in
theorem z683 : wZ (.code yX12_journal cX12_journal 3 (some .int)) := ⟨List.mem_append_right _ (List.mem_of_getElem? (i := 1450) (by decide +kernel)), Or.inl rfl⟩
set_option maxRecDepth 100000 in
theorem z684 : wZ (.code yX11_follow cX11_follow 6 none) := ⟨List.mem_append_right _ (List.mem_of_getElem? (i := 1458) (by decide +kernel)), Or.inl rfl⟩
set_option maxRecDepth 100000 in
theorem z685 : wZ (.selects RX11 yX11_follow yX11_follow) := ⟨List.mem_append_right _ (List.mem_of_getElem? (i := 1457) (by decide +kernel)), Or.inl rfl⟩
set_option maxRecDepth 100000 in
theorem z686 : wZ (.instanceMethod yX11_follow) := ⟨List.mem_append_right _ (List.mem_of_getElem? (i := 1456) (by decide +kernel)), Or.inl rfl⟩
set_option maxRecDepth 100000 in
theorem z687 : wZ (.methodLink RX12 170 yX11_follow) := ⟨List.mem_append_right _ (List.mem_of_getElem? (i := 1455) (by decide +kernel)), Or.inl rfl⟩
set_option maxRecDepth 100000 in
theorem z688 : wZ (.fieldLink RX12 167 "MotionFloorModel$Hall" "minutes" "[I") := ⟨List.mem_append_right _ (List.mem_of_getElem? (i := 1068) (by decide +kernel)), Or.inl rfl⟩
set_option maxRecDepth 100000 in
theorem z689 : wZ (.code yX12_before cX12_before 4 (some .int)) := ⟨List.mem_append_right _ (List.mem_of_getElem? (i := 1454) (by decide +kernel)), Or.inl rfl⟩
set_option maxRecDepth 100000 in
theorem z690 : wZ (.code yX12_again cX12_again 4 (some .int)) := ⟨List.mem_append_right _ (List.mem_of_getElem? (i := 1463) (by decide +kernel)), Or.inl rfl⟩
set_option maxRecDepth 100000 in
theorem z691 : wZ (.code yX12_tell cX12_tell 8 (some .int)) := ⟨List.mem_append_right _ (List.mem_of_getElem? (i := 1467) (by decide +kernel)), Or.inl rfl⟩
set_option maxRecDepth 100000 in
theorem z692 : wZ (.code yX12_check cX12_check 5 (some .int)) := ⟨List.mem_append_right _ (List.mem_of_getElem? (i := 1471) (by decide +kernel)), Or.inl rfl⟩
set_option maxRecDepth 100000 in
theorem z693 : wZ (.code yX12_strike cX12_strike 2 (some .int)) := ⟨List.mem_append_right _ (List.mem_of_getElem? (i := 1476) (by decide +kernel)), Or.inl rfl⟩
set_option maxRecDepth 100000 in
theorem z694 : wZ (.code yX12_image cX12_image 3 (some .int)) := ⟨List.mem_append_right _ (List.mem_of_getElem? (i := 1480) (by decide +kernel)), Or.inl rfl⟩
set_option maxRecDepth 100000 in
theorem z695 : wZ (.code yX12_back cX12_back 5 (some .int)) := ⟨List.mem_append_right _ (List.mem_of_getElem? (i := 1484) (by decide +kernel)), Or.inl rfl⟩
