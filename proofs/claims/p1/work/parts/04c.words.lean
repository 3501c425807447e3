set_option maxRecDepth 100000 in
theorem z390 : wZ (.static yX8_againstSetting) := ⟨wT2 (List.mem_of_getElem? (i := 70) (by decide +kernel)), Or.inl rfl⟩
set_option maxRecDepth 100000 in
theorem z391 : wZ (.methodLink RX8 45 yX8_againstSetting) := ⟨wT2 (List.mem_of_getElem? (i := 69) (by decide +kernel)), Or.inl rfl⟩
set_option maxRecDepth 100000 in
theorem z392 : wZ (.fieldLink RX1 34 "MotionFloor$House" "quorum" "I") := ⟨wT1 (List.mem_of_getElem? (i := 47) (by decide +kernel)), Or.inl rfl⟩
set_option maxRecDepth 100000 in
theorem z393 : wZ (.code yX10_quorum cX10_quorum 2 (some .int)) := ⟨wT4 (List.mem_of_getElem? (i := 35) rfl), Or.inl rfl⟩
set_option maxRecDepth 100000 in
theorem z394 : wZ (.code yX12_quorum cX12_quorum 2 (some .int)) := ⟨wT6 (List.mem_of_getElem? (i := 123) rfl), Or.inl rfl⟩
set_option maxRecDepth 100000 in
theorem z395 : wZ (.selects RX12 yX12_quorum yX12_quorum) := ⟨wT6 (List.mem_of_getElem? (i := 122) (by decide +kernel)), Or.inl rfl⟩
set_option maxRecDepth 100000 in
theorem z396 : wZ (.instanceMethod yX12_quorum) := ⟨wT6 (List.mem_of_getElem? (i := 121) (by decide +kernel)), Or.inl rfl⟩
set_option maxRecDepth 100000 in
theorem z397 : wZ (.methodLink RL 29 yX12_quorum) := ⟨wT6 (List.mem_of_getElem? (i := 120) (by decide +kernel)), Or.inl rfl⟩
set_option maxRecDepth 100000 in
theorem z398 : wZ (.selects RX10 yX10_quorum yX10_quorum) := ⟨wT4 (List.mem_of_getElem? (i := 34) (by decide +kernel)), Or.inl rfl⟩
set_option maxRecDepth 100000 in
theorem z399 : wZ (.instanceMethod yX10_quorum) := ⟨wT4 (List.mem_of_getElem? (i := 33) (by decide +kernel)), Or.inl rfl⟩
set_option maxRecDepth 100000 in
theorem z400 : wZ (.methodLink RL 26 yX10_quorum) := ⟨wT4 (List.mem_of_getElem? (i := 32) (by decide +kernel)), Or.inl rfl⟩
set_option maxRecDepth 100000 in
theorem z401 : wZ (.code yX10_chair cX10_chair 2 (some .int)) := ⟨wT4 (List.mem_of_getElem? (i := 39) rfl), Or.inl rfl⟩
set_option maxRecDepth 100000 in
theorem z402 : wZ (.code yX12_chair cX12_chair 2 (some .int)) := ⟨wT6 (List.mem_of_getElem? (i := 127) rfl), Or.inl rfl⟩
set_option maxRecDepth 100000 in
theorem z403 : wZ (.selects RX12 yX12_chair yX12_chair) := ⟨wT6 (List.mem_of_getElem? (i := 126) (by decide +kernel)), Or.inl rfl⟩
set_option maxRecDepth 100000 in
theorem z404 : wZ (.instanceMethod yX12_chair) := ⟨wT6 (List.mem_of_getElem? (i := 125) (by decide +kernel)), Or.inl rfl⟩
set_option maxRecDepth 100000 in
theorem z405 : wZ (.methodLink RL 33 yX12_chair) := ⟨wT6 (List.mem_of_getElem? (i := 124) (by decide +kernel)), Or.inl rfl⟩
set_option maxRecDepth 100000 in
theorem z406 : wZ (.selects RX10 yX10_chair yX10_chair) := ⟨wT4 (List.mem_of_getElem? (i := 38) (by decide +kernel)), Or.inl rfl⟩
set_option maxRecDepth 100000 in
theorem z407 : wZ (.instanceMethod yX10_chair) := ⟨wT4 (List.mem_of_getElem? (i := 37) (by decide +kernel)), Or.inl rfl⟩
set_option maxRecDepth 100000 in
theorem z408 : wZ (.methodLink RL 30 yX10_chair) := ⟨wT4 (List.mem_of_getElem? (i := 36) (by decide +kernel)), Or.inl rfl⟩
set_option maxRecDepth 100000 in
theorem z409 : wZ (.code yX2_replaceMajority cX2_replaceMajority 4 (some .int)) := ⟨wT2 (List.mem_of_getElem? (i := 220) rfl), Or.inl rfl⟩
set_option maxRecDepth 100000 in
theorem z410 : wZ (.selects RX2 yX2_replaceMajority yX2_replaceMajority) := ⟨wT2 (List.mem_of_getElem? (i := 219) (by decide +kernel)), Or.inl rfl⟩
set_option maxRecDepth 100000 in
theorem z411 : wZ (.instanceMethod yX2_replaceMajority) := ⟨wT2 (List.mem_of_getElem? (i := 218) (by decide +kernel)), Or.inl rfl⟩
set_option maxRecDepth 100000 in
theorem z412 : wZ (.methodLink RX1 41 yX2_replaceMajority) := ⟨wT2 (List.mem_of_getElem? (i := 217) (by decide +kernel)), Or.inl rfl⟩
set_option maxRecDepth 100000 in
theorem z413 : wZ (.code yX10_majority cX10_majority 3 (some .int)) := ⟨wT4 (List.mem_of_getElem? (i := 43) rfl), Or.inl rfl⟩
set_option maxRecDepth 100000 in
theorem z414 : wZ (.code yX12_majority cX12_majority 3 (some .int)) := ⟨wT6 (List.mem_of_getElem? (i := 131) rfl), Or.inl rfl⟩
set_option maxRecDepth 100000 in
theorem z415 : wZ (.selects RX12 yX12_majority yX12_majority) := ⟨wT6 (List.mem_of_getElem? (i := 130) (by decide +kernel)), Or.inl rfl⟩
set_option maxRecDepth 100000 in
theorem z416 : wZ (.instanceMethod yX12_majority) := ⟨wT6 (List.mem_of_getElem? (i := 129) (by decide +kernel)), Or.inl rfl⟩
set_option maxRecDepth 100000 in
theorem z417 : wZ (.methodLink RL 38 yX12_majority) := ⟨wT6 (List.mem_of_getElem? (i := 128) (by decide +kernel)), Or.inl rfl⟩
set_option maxRecDepth 100000 in
theorem z418 : wZ (.selects RX10 yX10_majority yX10_majority) := ⟨wT4 (List.mem_of_getElem? (i := 42) (by decide +kernel)), Or.inl rfl⟩
set_option maxRecDepth 100000 in
theorem z419 : wZ (.instanceMethod yX10_majority) := ⟨wT4 (List.mem_of_getElem? (i := 41) (by decide +kernel)), Or.inl rfl⟩
set_option maxRecDepth 100000 in
theorem z420 : wZ (.methodLink RL 34 yX10_majority) := ⟨wT4 (List.mem_of_getElem? (i := 40) (by decide +kernel)), Or.inl rfl⟩
set_option maxRecDepth 100000 in
theorem z421 : wZ (.fieldLink RX1 45 "MotionFloor$House" "limit" "I") := ⟨wT1 (List.mem_of_getElem? (i := 50) (by decide +kernel)), Or.inl rfl⟩
set_option maxRecDepth 100000 in
theorem z422 : wZ (.code yX10_limit cX10_limit 2 (some .int)) := ⟨wT4 (List.mem_of_getElem? (i := 47) rfl), Or.inl rfl⟩
set_option maxRecDepth 100000 in
theorem z423 : wZ (.code yX12_limit cX12_limit 2 (some .int)) := ⟨wT6 (List.mem_of_getElem? (i := 135) rfl), Or.inl rfl⟩
set_option maxRecDepth 100000 in
theorem z424 : wZ (.selects RX12 yX12_limit yX12_limit) := ⟨wT6 (List.mem_of_getElem? (i := 134) (by decide +kernel)), Or.inl rfl⟩
set_option maxRecDepth 100000 in
theorem z425 : wZ (.instanceMethod yX12_limit) := ⟨wT6 (List.mem_of_getElem? (i := 133) (by decide +kernel)), Or.inl rfl⟩
set_option maxRecDepth 100000 in
theorem z426 : wZ (.methodLink RL 42 yX12_limit) := ⟨wT6 (List.mem_of_getElem? (i := 132) (by decide +kernel)), Or.inl rfl⟩
set_option maxRecDepth 100000 in
theorem z427 : wZ (.selects RX10 yX10_limit yX10_limit) := ⟨wT4 (List.mem_of_getElem? (i := 46) (by decide +kernel)), Or.inl rfl⟩
set_option maxRecDepth 100000 in
theorem z428 : wZ (.instanceMethod yX10_limit) := ⟨wT4 (List.mem_of_getElem? (i := 45) (by decide +kernel)), Or.inl rfl⟩
set_option maxRecDepth 100000 in
theorem z429 : wZ (.methodLink RL 39 yX10_limit) := ⟨wT4 (List.mem_of_getElem? (i := 44) (by decide +kernel)), Or.inl rfl⟩
set_option maxRecDepth 100000 in
theorem z430 : wZ (.code yX8_againstFloor cX8_againstFloor 5 (some .int)) := ⟨wT2 (List.mem_of_getElem? (i := 74) rfl), Or.inl rfl⟩
set_option maxRecDepth 100000 in
theorem z431 : wZ (.static yX8_againstFloor) := ⟨wT2 (List.mem_of_getElem? (i := 73) (by decide +kernel)), Or.inl rfl⟩
set_option maxRecDepth 100000 in
theorem z432 : wZ (.methodLink RX8 49 yX8_againstFloor) := ⟨wT2 (List.mem_of_getElem? (i := 72) (by decide +kernel)), Or.inl rfl⟩
set_option maxRecDepth 100000 in
theorem z433 : wZ (.code yX10_floor cX10_floor 2 (some .int)) := ⟨wT4 (List.mem_of_getElem? (i := 51) rfl), Or.inl rfl⟩
set_option maxRecDepth 100000 in
theorem z434 : wZ (.code yX12_floor cX12_floor 2 (some .int)) := ⟨wT6 (List.mem_of_getElem? (i := 139) rfl), Or.inl rfl⟩
set_option maxRecDepth 100000 in
theorem z435 : wZ (.selects RX12 yX12_floor yX12_floor) := ⟨wT6 (List.mem_of_getElem? (i := 138) (by decide +kernel)), Or.inl rfl⟩
set_option maxRecDepth 100000 in
theorem z436 : wZ (.instanceMethod yX12_floor) := ⟨wT6 (List.mem_of_getElem? (i := 137) (by decide +kernel)), Or.inl rfl⟩
set_option maxRecDepth 100000 in
theorem z437 : wZ (.methodLink RL 46 yX12_floor) := ⟨wT6 (List.mem_of_getElem? (i := 136) (by decide +kernel)), Or.inl rfl⟩
set_option maxRecDepth 100000 in
theorem z438 : wZ (.selects RX10 yX10_floor yX10_floor) := ⟨wT4 (List.mem_of_getElem? (i := 50) (by decide +kernel)), Or.inl rfl⟩
set_option maxRecDepth 100000 in
theorem z439 : wZ (.instanceMethod yX10_floor) := ⟨wT4 (List.mem_of_getElem? (i := 49) (by decide +kernel)), Or.inl rfl⟩
set_option maxRecDepth 100000 in
theorem z440 : wZ (.methodLink RL 43 yX10_floor) := ⟨wT4 (List.mem_of_getElem? (i := 48) (by decide +kernel)), Or.inl rfl⟩
set_option maxRecDepth 100000 in
theorem z441 : wZ (.fieldLink RX8 53 "MotionFloor$House" "speaker" "I") := ⟨wT1 (List.mem_of_getElem? (i := 56) (by decide +kernel)), Or.inl rfl⟩
set_option maxRecDepth 100000 in
theorem z442 : wZ (.code yX10_cede cX10_cede 1 (some .int)) := ⟨wT4 (List.mem_of_getElem? (i := 55) rfl), Or.inl rfl⟩
set_option maxRecDepth 100000 in
theorem z443 : wZ (.code yX12_cede cX12_cede 1 (some .int)) := ⟨wT6 (List.mem_of_getElem? (i := 143) rfl), Or.inl rfl⟩
set_option maxRecDepth 100000 in
theorem z444 : wZ (.selects RX12 yX12_cede yX12_cede) := ⟨wT6 (List.mem_of_getElem? (i := 142) (by decide +kernel)), Or.inl rfl⟩
set_option maxRecDepth 100000 in
theorem z445 : wZ (.instanceMethod yX12_cede) := ⟨wT6 (List.mem_of_getElem? (i := 141) (by decide +kernel)), Or.inl rfl⟩
set_option maxRecDepth 100000 in
theorem z446 : wZ (.methodLink RL 51 yX12_cede) := ⟨wT6 (List.mem_of_getElem? (i := 140) (by decide +kernel)), Or.inl rfl⟩
set_option maxRecDepth 100000 in
theorem z447 : wZ (.selects RX10 yX10_cede yX10_cede) := ⟨wT4 (List.mem_of_getElem? (i := 54) (by decide +kernel)), Or.inl rfl⟩
set_option maxRecDepth 100000 in
theorem z448 : wZ (.instanceMethod yX10_cede) := ⟨wT4 (List.mem_of_getElem? (i := 53) (by decide +kernel)), Or.inl rfl⟩
set_option maxRecDepth 100000 in
theorem z449 : wZ (.methodLink RL 47 yX10_cede) := ⟨wT4 (List.mem_of_getElem? (i := 52) (by decide +kernel)), Or.inl rfl⟩
set_option maxRecDepth 100000 in
theorem z450 : wZ (.methodLink RX8 90 yX5_top) := ⟨wT2 (List.mem_of_getElem? (i := 75) (by decide +kernel)), Or.inl rfl⟩
set_option maxRecDepth 100000 in
theorem z451 : wZ (.code yX8_againstDebate cX8_againstDebate 3 (some .int)) := ⟨wT2 (List.mem_of_getElem? (i := 85) rfl), Or.inl rfl⟩
set_option maxRecDepth 100000 in
theorem z452 : wZ (.static yX8_againstDebate) := ⟨wT2 (List.mem_of_getElem? (i := 84) (by decide +kernel)), Or.inl rfl⟩
set_option maxRecDepth 100000 in
theorem z453 : wZ (.methodLink RX8 59 yX8_againstDebate) := ⟨wT2 (List.mem_of_getElem? (i := 83) (by decide +kernel)), Or.inl rfl⟩
set_option maxRecDepth 100000 in
theorem z454 : wZ (.code yX10_debate cX10_debate 2 (some .int)) := ⟨wT4 (List.mem_of_getElem? (i := 59) rfl), Or.inl rfl⟩
set_option maxRecDepth 100000 in
theorem z455 : wZ (.code yX12_debate cX12_debate 2 (some .int)) := ⟨wT6 (List.mem_of_getElem? (i := 147) rfl), Or.inl rfl⟩
set_option maxRecDepth 100000 in
theorem z456 : wZ (.selects RX12 yX12_debate yX12_debate) := ⟨wT6 (List.mem_of_getElem? (i := 146) (by decide +kernel)), Or.inl rfl⟩
set_option maxRecDepth 100000 in
theorem z457 : wZ (.instanceMethod yX12_debate) := ⟨wT6 (List.mem_of_getElem? (i := 145) (by decide +kernel)), Or.inl rfl⟩
set_option maxRecDepth 100000 in
theorem z458 : wZ (.methodLink RL 55 yX12_debate) := ⟨wT6 (List.mem_of_getElem? (i := 144) (by decide +kernel)), Or.inl rfl⟩
set_option maxRecDepth 100000 in
theorem z459 : wZ (.selects RX10 yX10_debate yX10_debate) := ⟨wT4 (List.mem_of_getElem? (i := 58) (by decide +kernel)), Or.inl rfl⟩
set_option maxRecDepth 100000 in
theorem z460 : wZ (.instanceMethod yX10_debate) := ⟨wT4 (List.mem_of_getElem? (i := 57) (by decide +kernel)), Or.inl rfl⟩
set_option maxRecDepth 100000 in
theorem z461 : wZ (.methodLink RL 52 yX10_debate) := ⟨wT4 (List.mem_of_getElem? (i := 56) (by decide +kernel)), Or.inl rfl⟩
set_option maxRecDepth 100000 in
theorem z462 : wZ (.code yX8_againstOnPaper cX8_againstOnPaper 6 (some .int)) := ⟨wT2 (List.mem_of_getElem? (i := 92) rfl), Or.inl rfl⟩
set_option maxRecDepth 100000 in
theorem z463 : wZ (.static yX8_againstOnPaper) := ⟨wT2 (List.mem_of_getElem? (i := 91) (by decide +kernel)), Or.inl rfl⟩
set_option maxRecDepth 100000 in
theorem z464 : wZ (.methodLink RX8 15 yX8_againstOnPaper) := ⟨wT2 (List.mem_of_getElem? (i := 90) (by decide +kernel)), Or.inl rfl⟩
set_option maxRecDepth 100000 in
theorem z465 : wZ (.fieldLink RX4 18 "MotionFloor$Motion" "votes" "[B") := ⟨wT3 (List.mem_of_getElem? (i := 59) (by decide +kernel)), Or.inl rfl⟩
set_option maxRecDepth 100000 in
theorem z466 : wZ (.fieldLink RX4 12 "MotionFloor$Motion" "text" "LMotionFloor$Text;") := ⟨wT3 (List.mem_of_getElem? (i := 53) (by decide +kernel)), Or.inl rfl⟩
set_option maxRecDepth 100000 in
theorem z467 : wZ (.classLink RX4 9 RX9) := ⟨wT3 (List.mem_of_getElem? (i := 4) (by decide +kernel)), Or.inl rfl⟩
set_option maxRecDepth 100000 in
theorem z468 : wZ (.methodLink RX4 3 objectInit) := ⟨wT3 (List.mem_of_getElem? (i := 3) (by decide +kernel)), Or.inl rfl⟩
set_option maxRecDepth 100000 in
theorem z469 : wZ (.code yX4_init cX4_init 1 none) := ⟨wT3 (List.mem_of_getElem? (i := 2) rfl), Or.inl rfl⟩
set_option maxRecDepth 100000 in
theorem z470 : wZ (.fieldLink RX4 67 "MotionFloor$Motion" "voters" "I") := ⟨wT3 (List.mem_of_getElem? (i := 60) (by decide +kernel)), Or.inl rfl⟩
set_option maxRecDepth 100000 in
theorem z471 : wZ (.fieldLink RX4 64 "MotionFloor$Motion" "outOfOrder" "Z") := ⟨wT3 (List.mem_of_getElem? (i := 50) (by decide +kernel)), Or.inl rfl⟩
set_option maxRecDepth 100000 in
theorem z472 : wZ (.fieldLink RX4 61 "MotionFloor$Motion" "laid" "Z") := ⟨wT3 (List.mem_of_getElem? (i := 46) (by decide +kernel)), Or.inl rfl⟩
set_option maxRecDepth 100000 in
theorem z473 : wZ (.fieldLink RX4 58 "MotionFloor$Motion" "to" "I") := ⟨wT3 (List.mem_of_getElem? (i := 41) (by decide +kernel)), Or.inl rfl⟩
set_option maxRecDepth 100000 in
theorem z474 : wZ (.fieldLink RX4 55 "MotionFloor$Motion" "from" "I") := ⟨wT3 (List.mem_of_getElem? (i := 36) (by decide +kernel)), Or.inl rfl⟩
set_option maxRecDepth 100000 in
theorem z475 : wZ (.fieldLink RX4 51 "MotionFloor$Motion" "closed" "Z") := ⟨wT3 (List.mem_of_getElem? (i := 33) (by decide +kernel)), Or.inl rfl⟩
set_option maxRecDepth 100000 in
theorem z476 : wZ (.fieldLink RX4 48 "MotionFloor$Motion" "speeches" "I") := ⟨wT3 (List.mem_of_getElem? (i := 31) (by decide +kernel)), Or.inl rfl⟩
set_option maxRecDepth 100000 in
theorem z477 : wZ (.fieldLink RX4 45 "MotionFloor$Motion" "floors" "I") := ⟨wT3 (List.mem_of_getElem? (i := 29) (by decide +kernel)), Or.inl rfl⟩
set_option maxRecDepth 100000 in
theorem z478 : wZ (.fieldLink RX4 42 "MotionFloor$Motion" "seconder" "I") := ⟨wT3 (List.mem_of_getElem? (i := 25) (by decide +kernel)), Or.inl rfl⟩
set_option maxRecDepth 100000 in
theorem z479 : wZ (.fieldLink RX4 39 "MotionFloor$Motion" "mover" "I") := ⟨wT3 (List.mem_of_getElem? (i := 20) (by decide +kernel)), Or.inl rfl⟩
set_option maxRecDepth 100000 in
theorem z480 : wZ (.fieldLink RX4 36 "MotionFloor$Motion" "kind" "I") := ⟨wT3 (List.mem_of_getElem? (i := 15) (by decide +kernel)), Or.inl rfl⟩
set_option maxRecDepth 100000 in
theorem z481 : wZ (.fieldLink RX4 33 "MotionFloor$Motion" "subject" "I") := ⟨wT3 (List.mem_of_getElem? (i := 10) (by decide +kernel)), Or.inl rfl⟩
set_option maxRecDepth 100000 in
theorem z482 : wZ (.fieldLink RX4 30 "MotionFloor$Motion" "name" "I") := ⟨wT3 (List.mem_of_getElem? (i := 6) (by decide +kernel)), Or.inl rfl⟩
set_option maxRecDepth 100000 in
theorem z483 : wZ (.code yX4_keepTextAs cX4_keepTextAs 2 none) := ⟨wT3 (List.mem_of_getElem? (i := 103) rfl), Or.inl rfl⟩
set_option maxRecDepth 100000 in
theorem z484 : wZ (.fieldLink RX4 26 "MotionFloor$Text" "size" "I") := ⟨wT1 (List.mem_of_getElem? (i := 154) (by decide +kernel)), Or.inl rfl⟩
set_option maxRecDepth 100000 in
theorem z485 : wZ (.initialized RX4) := ⟨wT1 (List.mem_of_getElem? (i := 14) (by decide +kernel)), Or.inl rfl⟩
set_option maxRecDepth 100000 in
theorem z486 : wZ (.selects RX4 yX4_keepTextAs yX4_keepTextAs) := ⟨wT3 (List.mem_of_getElem? (i := 102) (by decide +kernel)), Or.inl rfl⟩
set_option maxRecDepth 100000 in
theorem z487 : wZ (.instanceMethod yX4_keepTextAs) := ⟨wT3 (List.mem_of_getElem? (i := 101) (by decide +kernel)), Or.inl rfl⟩
set_option maxRecDepth 100000 in
theorem z488 : wZ (.methodLink RX4 22 yX4_keepTextAs) := ⟨wT3 (List.mem_of_getElem? (i := 100) (by decide +kernel)), Or.inl rfl⟩
set_option maxRecDepth 100000 in
theorem z489 : wZ (.code yX4_renew cX4_renew 2 none) := ⟨wT3 (List.mem_of_getElem? (i := 99) rfl), Or.inl rfl⟩
set_option maxRecDepth 100000 in
theorem z490 : wZ (.selects RX4 yX4_renew yX4_renew) := ⟨wT3 (List.mem_of_getElem? (i := 98) (by decide +kernel)), Or.inl rfl⟩
set_option maxRecDepth 100000 in
theorem z491 : wZ (.instanceMethod yX4_renew) := ⟨wT3 (List.mem_of_getElem? (i := 97) (by decide +kernel)), Or.inl rfl⟩
set_option maxRecDepth 100000 in
theorem z492 : wZ (.methodLink RX0 138 yX4_renew) := ⟨wT3 (List.mem_of_getElem? (i := 96) (by decide +kernel)), Or.inl rfl⟩
set_option maxRecDepth 100000 in
theorem z493 : wZ (.instanceMethod yX4_init) := ⟨wT3 (List.mem_of_getElem? (i := 1) (by decide +kernel)), Or.inl rfl⟩
set_option maxRecDepth 100000 in
theorem z494 : wZ (.classLink RX0 102 RX4) := ⟨wT2 (List.mem_of_getElem? (i := 238) (by decide +kernel)), Or.inl rfl⟩
set_option maxRecDepth 100000 in
theorem z495 : wZ (.fieldLink RX0 130 "MotionFloor$Assembly" "spare" "LMotionFloor$Motion;") := ⟨wT1 (List.mem_of_getElem? (i := 211) (by decide +kernel)), Or.inl rfl⟩
set_option maxRecDepth 100000 in
theorem z496 : wZ (.code yX0_newMotion cX0_newMotion 3 (some (.object "MotionFloor$Motion"))) := ⟨wT2 (List.mem_of_getElem? (i := 237) rfl), Or.inl rfl⟩
set_option maxRecDepth 100000 in
theorem z497 : wZ (.code yX5_put cX5_put 2 none) := ⟨wT3 (List.mem_of_getElem? (i := 114) rfl), Or.inl rfl⟩
set_option maxRecDepth 100000 in
theorem z498 : wZ (.selects RX5 yX5_put yX5_put) := ⟨wT3 (List.mem_of_getElem? (i := 113) (by decide +kernel)), Or.inl rfl⟩
set_option maxRecDepth 100000 in
theorem z499 : wZ (.instanceMethod yX5_put) := ⟨wT3 (List.mem_of_getElem? (i := 112) (by decide +kernel)), Or.inl rfl⟩
set_option maxRecDepth 100000 in
theorem z500 : wZ (.methodLink RX6 41 yX5_put) := ⟨wT3 (List.mem_of_getElem? (i := 111) (by decide +kernel)), Or.inl rfl⟩
set_option maxRecDepth 100000 in
theorem z501 : wZ (.code yX6_hold cX6_hold 3 none) := ⟨wT3 (List.mem_of_getElem? (i := 110) rfl), Or.inl rfl⟩
set_option maxRecDepth 100000 in
theorem z502 : wZ (.selects RX6 yX6_hold yX6_hold) := ⟨wT3 (List.mem_of_getElem? (i := 109) (by decide +kernel)), Or.inl rfl⟩
set_option maxRecDepth 100000 in
theorem z503 : wZ (.instanceMethod yX6_hold) := ⟨wT3 (List.mem_of_getElem? (i := 108) (by decide +kernel)), Or.inl rfl⟩
set_option maxRecDepth 100000 in
theorem z504 : wZ (.methodLink RX1 133 yX6_hold) := ⟨wT3 (List.mem_of_getElem? (i := 107) (by decide +kernel)), Or.inl rfl⟩
set_option maxRecDepth 100000 in
theorem z505 : wZ (.selects RX0 yX0_newMotion yX0_newMotion) := ⟨wT2 (List.mem_of_getElem? (i := 236) (by decide +kernel)), Or.inl rfl⟩
set_option maxRecDepth 100000 in
theorem z506 : wZ (.instanceMethod yX0_newMotion) := ⟨wT2 (List.mem_of_getElem? (i := 235) (by decide +kernel)), Or.inl rfl⟩
set_option maxRecDepth 100000 in
theorem z507 : wZ (.methodLink RX1 129 yX0_newMotion) := ⟨wT2 (List.mem_of_getElem? (i := 234) (by decide +kernel)), Or.inl rfl⟩
set_option maxRecDepth 100000 in
theorem z508 : wZ (.methodLink RX1 125 yX0_discard) := ⟨wT2 (List.mem_of_getElem? (i := 233) (by decide +kernel)), Or.inl rfl⟩
set_option maxRecDepth 100000 in
theorem z509 : wZ (.fieldLink RX1 121 "MotionFloor$Assembly" "draft" "LMotionFloor$Place;") := ⟨wT1 (List.mem_of_getElem? (i := 188) (by decide +kernel)), Or.inl rfl⟩
set_option maxRecDepth 100000 in
theorem z510 : wZ (.code yX1_begin cX1_begin 2 (some .int)) := ⟨wT2 (List.mem_of_getElem? (i := 232) rfl), Or.inl rfl⟩
set_option maxRecDepth 100000 in
theorem z511 : wZ (.static yX1_begin) := ⟨wT2 (List.mem_of_getElem? (i := 231) (by decide +kernel)), Or.inl rfl⟩
set_option maxRecDepth 100000 in
theorem z512 : wZ (.methodLink RX1 62 yX1_begin) := ⟨wT2 (List.mem_of_getElem? (i := 230) (by decide +kernel)), Or.inl rfl⟩
set_option maxRecDepth 100000 in
theorem z513 : wZ (.code yX10_draft cX10_draft 2 (some .int)) := ⟨wT4 (List.mem_of_getElem? (i := 63) rfl), Or.inl rfl⟩
set_option maxRecDepth 100000 in
theorem z514 : wZ (.code yX11_dropDraft cX11_dropDraft 2 none) := ⟨wT6 (List.mem_of_getElem? (i := 60) rfl), Or.inl rfl⟩
set_option maxRecDepth 100000 in
theorem z515 : wZ (.fieldLink RX11 148 "MotionFloorModel$Hall" "born" "I") := ⟨wT5 (List.mem_of_getElem? (i := 89) (by decide +kernel)), Or.inl rfl⟩
set_option maxRecDepth 100000 in
theorem z516 : wZ (.code yX11_anew cX11_anew 3 none) := ⟨wT6 (List.mem_of_getElem? (i := 68) rfl), Or.inl rfl⟩
set_option maxRecDepth 100000 in
theorem z517 : wZ (.selects RX11 yX11_anew yX11_anew) := ⟨List.mem_append_left _ (List.mem_of_getElem? (i := 16) (by decide +kernel)), Or.inl rfl⟩
set_option maxRecDepth 100000 in
theorem z518 : wZ (.instanceMethod yX11_anew) := ⟨wT6 (List.mem_of_getElem? (i := 67) (by decide +kernel)), Or.inl rfl⟩
set_option maxRecDepth 100000 in
theorem z519 : wZ (.methodLink RX11 144 yX11_anew) := ⟨wT6 (List.mem_of_getElem? (i := 65) (by decide +kernel)), Or.inl rfl⟩
set_option maxRecDepth 100000 in
theorem z520 : wZ (.code yX11_newSlot cX11_newSlot 3 (some .int)) := ⟨wT6 (List.mem_of_getElem? (i := 64) rfl), Or.inl rfl⟩
set_option maxRecDepth 100000 in
theorem z521 : wZ (.fieldLink RX11 151 "MotionFloorModel$Hall" "draftTabled" "Z") := ⟨wT5 (List.mem_of_getElem? (i := 100) (by decide +kernel)), Or.inl rfl⟩
set_option maxRecDepth 100000 in
theorem z522 : wZ (.selects RX11 yX11_newSlot yX11_newSlot) := ⟨List.mem_append_left _ (List.mem_of_getElem? (i := 15) (by decide +kernel)), Or.inl rfl⟩
set_option maxRecDepth 100000 in
theorem z523 : wZ (.instanceMethod yX11_newSlot) := ⟨wT6 (List.mem_of_getElem? (i := 63) (by decide +kernel)), Or.inl rfl⟩
set_option maxRecDepth 100000 in
theorem z524 : wZ (.methodLink RX11 209 yX11_newSlot) := ⟨wT6 (List.mem_of_getElem? (i := 61) (by decide +kernel)), Or.inl rfl⟩
set_option maxRecDepth 100000 in
theorem z525 : wZ (.selects RX11 yX11_dropDraft yX11_dropDraft) := ⟨List.mem_append_left _ (List.mem_of_getElem? (i := 14) (by decide +kernel)), Or.inl rfl⟩
set_option maxRecDepth 100000 in
theorem z526 : wZ (.instanceMethod yX11_dropDraft) := ⟨wT6 (List.mem_of_getElem? (i := 59) (by decide +kernel)), Or.inl rfl⟩
set_option maxRecDepth 100000 in
theorem z527 : wZ (.methodLink RX11 206 yX11_dropDraft) := ⟨wT6 (List.mem_of_getElem? (i := 57) (by decide +kernel)), Or.inl rfl⟩
set_option maxRecDepth 100000 in
theorem z528 : wZ (.code yX12_draft cX12_draft 2 (some .int)) := ⟨wT6 (List.mem_of_getElem? (i := 151) rfl), Or.inl rfl⟩
set_option maxRecDepth 100000 in
theorem z529 : wZ (.selects RX12 yX12_draft yX12_draft) := ⟨wT6 (List.mem_of_getElem? (i := 150) (by decide +kernel)), Or.inl rfl⟩
set_option maxRecDepth 100000 in
theorem z530 : wZ (.instanceMethod yX12_draft) := ⟨wT6 (List.mem_of_getElem? (i := 149) (by decide +kernel)), Or.inl rfl⟩
set_option maxRecDepth 100000 in
theorem z531 : wZ (.methodLink RL 59 yX12_draft) := ⟨wT6 (List.mem_of_getElem? (i := 148) (by decide +kernel)), Or.inl rfl⟩
set_option maxRecDepth 100000 in
theorem z532 : wZ (.selects RX10 yX10_draft yX10_draft) := ⟨wT4 (List.mem_of_getElem? (i := 62) (by decide +kernel)), Or.inl rfl⟩
set_option maxRecDepth 100000 in
theorem z533 : wZ (.instanceMethod yX10_draft) := ⟨wT4 (List.mem_of_getElem? (i := 61) (by decide +kernel)), Or.inl rfl⟩
set_option maxRecDepth 100000 in
theorem z534 : wZ (.methodLink RL 56 yX10_draft) := ⟨wT4 (List.mem_of_getElem? (i := 60) (by decide +kernel)), Or.inl rfl⟩
set_option maxRecDepth 100000 in
theorem z535 : wZ (.code yX6_motion cX6_motion 1 (some (.object "MotionFloor$Motion"))) := ⟨wT2 (List.mem_of_getElem? (i := 99) rfl), Or.inl rfl⟩
set_option maxRecDepth 100000 in
theorem z536 : wZ (.selects RX6 yX6_motion yX6_motion) := ⟨wT2 (List.mem_of_getElem? (i := 98) (by decide +kernel)), Or.inl rfl⟩
set_option maxRecDepth 100000 in
theorem z537 : wZ (.instanceMethod yX6_motion) := ⟨wT2 (List.mem_of_getElem? (i := 97) (by decide +kernel)), Or.inl rfl⟩
set_option maxRecDepth 100000 in
theorem z538 : wZ (.methodLink RX8 145 yX6_motion) := ⟨wT2 (List.mem_of_getElem? (i := 96) (by decide +kernel)), Or.inl rfl⟩
set_option maxRecDepth 100000 in
theorem z539 : wZ (.fieldLink RX8 141 "MotionFloor$Assembly" "draft" "LMotionFloor$Place;") := ⟨wT1 (List.mem_of_getElem? (i := 190) (by decide +kernel)), Or.inl rfl⟩
set_option maxRecDepth 100000 in
theorem z540 : wZ (.code yX8_againstSpan cX8_againstSpan 4 (some .int)) := ⟨wT2 (List.mem_of_getElem? (i := 95) rfl), Or.inl rfl⟩
set_option maxRecDepth 100000 in
theorem z541 : wZ (.static yX8_againstSpan) := ⟨wT2 (List.mem_of_getElem? (i := 94) (by decide +kernel)), Or.inl rfl⟩
set_option maxRecDepth 100000 in
theorem z542 : wZ (.methodLink RX8 62 yX8_againstSpan) := ⟨wT2 (List.mem_of_getElem? (i := 93) (by decide +kernel)), Or.inl rfl⟩
set_option maxRecDepth 100000 in
theorem z543 : wZ (.code yX10_span cX10_span 3 (some .int)) := ⟨wT4 (List.mem_of_getElem? (i := 67) rfl), Or.inl rfl⟩
set_option maxRecDepth 100000 in
theorem z544 : wZ (.code yX11_hasDraft cX11_hasDraft 3 (some .boolean)) := ⟨wT6 (List.mem_of_getElem? (i := 17) rfl), Or.inl rfl⟩
set_option maxRecDepth 100000 in
theorem z545 : wZ (.selects RX11 yX11_hasDraft yX11_hasDraft) := ⟨List.mem_append_left _ (List.mem_of_getElem? (i := 5) (by decide +kernel)), Or.inl rfl⟩
set_option maxRecDepth 100000 in
theorem z546 : wZ (.instanceMethod yX11_hasDraft) := ⟨wT6 (List.mem_of_getElem? (i := 16) (by decide +kernel)), Or.inl rfl⟩
set_option maxRecDepth 100000 in
theorem z547 : wZ (.methodLink RX11 163 yX11_hasDraft) := ⟨wT6 (List.mem_of_getElem? (i := 14) (by decide +kernel)), Or.inl rfl⟩
set_option maxRecDepth 100000 in
theorem z548 : wZ (.code yX12_span cX12_span 3 (some .int)) := ⟨wT6 (List.mem_of_getElem? (i := 155) rfl), Or.inl rfl⟩
set_option maxRecDepth 100000 in
theorem z549 : wZ (.selects RX12 yX12_span yX12_span) := ⟨wT6 (List.mem_of_getElem? (i := 154) (by decide +kernel)), Or.inl rfl⟩
set_option maxRecDepth 100000 in
theorem z550 : wZ (.instanceMethod yX12_span) := ⟨wT6 (List.mem_of_getElem? (i := 153) (by decide +kernel)), Or.inl rfl⟩
set_option maxRecDepth 100000 in
theorem z551 : wZ (.methodLink RL 63 yX12_span) := ⟨wT6 (List.mem_of_getElem? (i := 152) (by decide +kernel)), Or.inl rfl⟩
set_option maxRecDepth 100000 in
theorem z552 : wZ (.selects RX10 yX10_span yX10_span) := ⟨wT4 (List.mem_of_getElem? (i := 66) (by decide +kernel)), Or.inl rfl⟩
set_option maxRecDepth 100000 in
theorem z553 : wZ (.instanceMethod yX10_span) := ⟨wT4 (List.mem_of_getElem? (i := 65) (by decide +kernel)), Or.inl rfl⟩
set_option maxRecDepth 100000 in
theorem z554 : wZ (.methodLink RL 60 yX10_span) := ⟨wT4 (List.mem_of_getElem? (i := 64) (by decide +kernel)), Or.inl rfl⟩
set_option maxRecDepth 100000 in
theorem z555 : wZ (.code yX8_againstWord cX8_againstWord 7 (some .int)) := ⟨wT2 (List.mem_of_getElem? (i := 107) rfl), Or.inl rfl⟩
set_option maxRecDepth 100000 in
theorem z556 : wZ (.static yX8_againstWord) := ⟨wT2 (List.mem_of_getElem? (i := 106) (by decide +kernel)), Or.inl rfl⟩
set_option maxRecDepth 100000 in
theorem z557 : wZ (.methodLink RX8 66 yX8_againstWord) := ⟨wT2 (List.mem_of_getElem? (i := 105) (by decide +kernel)), Or.inl rfl⟩
set_option maxRecDepth 100000 in
theorem z558 : wZ (.code yX10_word cX10_word 5 (some .int)) := ⟨wT4 (List.mem_of_getElem? (i := 71) rfl), Or.inl rfl⟩
set_option maxRecDepth 100000 in
theorem z559 : wZ (.code yX11_reasonOfWord cX11_reasonOfWord 6 (some .int)) := ⟨wT6 (List.mem_of_getElem? (i := 21) rfl), Or.inl rfl⟩
set_option maxRecDepth 100000 in
theorem z560 : wZ (.selects RX11 yX11_reasonOfWord yX11_reasonOfWord) := ⟨List.mem_append_left _ (List.mem_of_getElem? (i := 6) (by decide +kernel)), Or.inl rfl⟩
set_option maxRecDepth 100000 in
theorem z561 : wZ (.instanceMethod yX11_reasonOfWord) := ⟨wT6 (List.mem_of_getElem? (i := 20) (by decide +kernel)), Or.inl rfl⟩
set_option maxRecDepth 100000 in
theorem z562 : wZ (.methodLink RX11 167 yX11_reasonOfWord) := ⟨wT6 (List.mem_of_getElem? (i := 18) (by decide +kernel)), Or.inl rfl⟩
set_option maxRecDepth 100000 in
theorem z563 : wZ (.code yX12_word cX12_word 5 (some .int)) := ⟨wT6 (List.mem_of_getElem? (i := 159) rfl), Or.inl rfl⟩
set_option maxRecDepth 100000 in
theorem z564 : wZ (.selects RX12 yX12_word yX12_word) := ⟨wT6 (List.mem_of_getElem? (i := 158) (by decide +kernel)), Or.inl rfl⟩
set_option maxRecDepth 100000 in
theorem z565 : wZ (.instanceMethod yX12_word) := ⟨wT6 (List.mem_of_getElem? (i := 157) (by decide +kernel)), Or.inl rfl⟩
set_option maxRecDepth 100000 in
theorem z566 : wZ (.methodLink RL 68 yX12_word) := ⟨wT6 (List.mem_of_getElem? (i := 156) (by decide +kernel)), Or.inl rfl⟩
set_option maxRecDepth 100000 in
theorem z567 : wZ (.selects RX10 yX10_word yX10_word) := ⟨wT4 (List.mem_of_getElem? (i := 70) (by decide +kernel)), Or.inl rfl⟩
set_option maxRecDepth 100000 in
theorem z568 : wZ (.instanceMethod yX10_word) := ⟨wT4 (List.mem_of_getElem? (i := 69) (by decide +kernel)), Or.inl rfl⟩
set_option maxRecDepth 100000 in
theorem z569 : wZ (.methodLink RL 64 yX10_word) := ⟨wT4 (List.mem_of_getElem? (i := 68) (by decide +kernel)), Or.inl rfl⟩
set_option maxRecDepth 100000 in
theorem z570 : wZ (.code yX0_placeAt cX0_placeAt 2 (some (.object "MotionFloor$Place"))) := ⟨wT2 (List.mem_of_getElem? (i := 117) rfl), Or.inl rfl⟩
set_option maxRecDepth 100000 in
theorem z571 : wZ (.code yX6_isEmpty cX6_isEmpty 1 (some .boolean)) := ⟨wT2 (List.mem_of_getElem? (i := 121) rfl), Or.inl rfl⟩
set_option maxRecDepth 100000 in
theorem z572 : wZ (.selects RX6 yX6_isEmpty yX6_isEmpty) := ⟨wT2 (List.mem_of_getElem? (i := 120) (by decide +kernel)), Or.inl rfl⟩
set_option maxRecDepth 100000 in
theorem z573 : wZ (.instanceMethod yX6_isEmpty) := ⟨wT2 (List.mem_of_getElem? (i := 119) (by decide +kernel)), Or.inl rfl⟩
set_option maxRecDepth 100000 in
theorem z574 : wZ (.methodLink RX8 170 yX6_isEmpty) := ⟨wT2 (List.mem_of_getElem? (i := 118) (by decide +kernel)), Or.inl rfl⟩
set_option maxRecDepth 100000 in
theorem z575 : wZ (.selects RX0 yX0_placeAt yX0_placeAt) := ⟨wT2 (List.mem_of_getElem? (i := 116) (by decide +kernel)), Or.inl rfl⟩
set_option maxRecDepth 100000 in
theorem z576 : wZ (.instanceMethod yX0_placeAt) := ⟨wT2 (List.mem_of_getElem? (i := 115) (by decide +kernel)), Or.inl rfl⟩
set_option maxRecDepth 100000 in
theorem z577 : wZ (.methodLink RX8 166 yX0_placeAt) := ⟨wT2 (List.mem_of_getElem? (i := 114) (by decide +kernel)), Or.inl rfl⟩
set_option maxRecDepth 100000 in
theorem z578 : wZ (.code yX8_againstLay cX8_againstLay 5 (some .int)) := ⟨wT2 (List.mem_of_getElem? (i := 113) rfl), Or.inl rfl⟩
set_option maxRecDepth 100000 in
theorem z579 : wZ (.static yX8_againstLay) := ⟨wT2 (List.mem_of_getElem? (i := 112) (by decide +kernel)), Or.inl rfl⟩
set_option maxRecDepth 100000 in
theorem z580 : wZ (.methodLink RX8 70 yX8_againstLay) := ⟨wT2 (List.mem_of_getElem? (i := 111) (by decide +kernel)), Or.inl rfl⟩
set_option maxRecDepth 100000 in
theorem z581 : wZ (.code yX10_lay cX10_lay 2 (some .int)) := ⟨wT4 (List.mem_of_getElem? (i := 75) rfl), Or.inl rfl⟩
set_option maxRecDepth 100000 in
theorem z582 : wZ (.code yX11_reasonOfLay cX11_reasonOfLay 2 (some .int)) := ⟨wT6 (List.mem_of_getElem? (i := 28) rfl), Or.inl rfl⟩
set_option maxRecDepth 100000 in
theorem z583 : wZ (.selects RX11 yX11_reasonOfLay yX11_reasonOfLay) := ⟨List.mem_append_left _ (List.mem_of_getElem? (i := 7) (by decide +kernel)), Or.inl rfl⟩
set_option maxRecDepth 100000 in
theorem z584 : wZ (.instanceMethod yX11_reasonOfLay) := ⟨wT6 (List.mem_of_getElem? (i := 27) (by decide +kernel)), Or.inl rfl⟩
set_option maxRecDepth 100000 in
theorem z585 : wZ (.methodLink RX11 171 yX11_reasonOfLay) := ⟨wT6 (List.mem_of_getElem? (i := 25) (by decide +kernel)), Or.inl rfl⟩
set_option maxRecDepth 100000 in
theorem z586 : wZ (.code yX12_lay cX12_lay 2 (some .int)) := ⟨wT6 (List.mem_of_getElem? (i := 163) rfl), Or.inl rfl⟩
set_option maxRecDepth 100000 in
theorem z587 : wZ (.selects RX12 yX12_lay yX12_lay) := ⟨wT6 (List.mem_of_getElem? (i := 162) (by decide +kernel)), Or.inl rfl⟩
set_option maxRecDepth 100000 in
theorem z588 : wZ (.instanceMethod yX12_lay) := ⟨wT6 (List.mem_of_getElem? (i := 161) (by decide +kernel)), Or.inl rfl⟩
set_option maxRecDepth 100000 in
theorem z589 : wZ (.methodLink RL 72 yX12_lay) := ⟨wT6 (List.mem_of_getElem? (i := 160) (by decide +kernel)), Or.inl rfl⟩
