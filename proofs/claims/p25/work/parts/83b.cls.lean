theorem gdX1_perform_297 : ckS (List.drop 297 cX1_perform.data.toList) 297 [(297, .aload_n 0, 1), (298, .invokestatic 109, 3), (301, .ireturn, 1), (302, .iconst 0, 1), (303, .ireturn, 1)] = true := by decide +kernel
theorem dX1_perform_297 : decode cX1_perform 297 = .ok (.aload_n 0, 1) := ckS_g gdX1_perform_297 0 rfl
theorem dX1_perform_298 : decode cX1_perform 298 = .ok (.invokestatic 109, 3) := ckS_g gdX1_perform_297 1 rfl
theorem dX1_perform_301 : decode cX1_perform 301 = .ok (.ireturn, 1) := ckS_g gdX1_perform_297 2 rfl
theorem dX1_perform_302 : decode cX1_perform 302 = .ok (.iconst 0, 1) := ckS_g gdX1_perform_297 3 rfl
theorem dX1_perform_303 : decode cX1_perform 303 = .ok (.ireturn, 1) := ckS_g gdX1_perform_297 4 rfl
set_option maxRecDepth 100000 in
theorem zc639 : wZ (.static yX1_endSitting) := ⟨wT4 (List.mem_of_getElem? (i := 23) (by decide +kernel)), Or.inl rfl⟩
set_option maxRecDepth 100000 in
theorem zc640 : wZ (.methodLink RX1 109 yX1_endSitting) := ⟨wT4 (List.mem_of_getElem? (i := 22) (by decide +kernel)), Or.inl rfl⟩
set_option maxRecDepth 100000 in
theorem zc641 : wZ (.static yX7_announce) := ⟨wT3 (List.mem_of_getElem? (i := 164) (by decide +kernel)), Or.inl rfl⟩
set_option maxRecDepth 100000 in
theorem zc642 : wZ (.methodLink RX1 103 yX7_announce) := ⟨wT3 (List.mem_of_getElem? (i := 163) (by decide +kernel)), Or.inl rfl⟩
set_option maxRecDepth 100000 in
theorem zc643 : wZ (.static yX1_putRuling) := ⟨wT3 (List.mem_of_getElem? (i := 160) (by decide +kernel)), Or.inl rfl⟩
set_option maxRecDepth 100000 in
theorem zc644 : wZ (.methodLink RX1 99 yX1_putRuling) := ⟨wT3 (List.mem_of_getElem? (i := 159) (by decide +kernel)), Or.inl rfl⟩
set_option maxRecDepth 100000 in
theorem zc645 : wZ (.methodLink RX1 92 yX0_dropTop) := ⟨wT3 (List.mem_of_getElem? (i := 158) (by decide +kernel)), Or.inl rfl⟩
set_option maxRecDepth 100000 in
theorem zc646 : wZ (.selects RX4 yX4_castVote yX4_castVote) := ⟨wT3 (List.mem_of_getElem? (i := 156) (by decide +kernel)), Or.inl rfl⟩
set_option maxRecDepth 100000 in
theorem zc647 : wZ (.instanceMethod yX4_castVote) := ⟨wT3 (List.mem_of_getElem? (i := 155) (by decide +kernel)), Or.inl rfl⟩
set_option maxRecDepth 100000 in
theorem zc648 : wZ (.methodLink RX1 87 yX4_castVote) := ⟨wT3 (List.mem_of_getElem? (i := 154) (by decide +kernel)), Or.inl rfl⟩
set_option maxRecDepth 100000 in
theorem zc649 : wZ (.static yX1_support) := ⟨wT3 (List.mem_of_getElem? (i := 152) (by decide +kernel)), Or.inl rfl⟩
set_option maxRecDepth 100000 in
theorem zc650 : wZ (.methodLink RX1 83 yX1_support) := ⟨wT3 (List.mem_of_getElem? (i := 151) (by decide +kernel)), Or.inl rfl⟩
set_option maxRecDepth 100000 in
theorem zc651 : wZ (.static yX1_bringUp) := ⟨wT3 (List.mem_of_getElem? (i := 148) (by decide +kernel)), Or.inl rfl⟩
set_option maxRecDepth 100000 in
theorem zc652 : wZ (.methodLink RX1 80 yX1_bringUp) := ⟨wT3 (List.mem_of_getElem? (i := 147) (by decide +kernel)), Or.inl rfl⟩
set_option maxRecDepth 100000 in
theorem zc653 : wZ (.static yX1_takeUp) := ⟨wT3 (List.mem_of_getElem? (i := 141) (by decide +kernel)), Or.inl rfl⟩
set_option maxRecDepth 100000 in
theorem zc654 : wZ (.methodLink RX1 77 yX1_takeUp) := ⟨wT3 (List.mem_of_getElem? (i := 140) (by decide +kernel)), Or.inl rfl⟩
set_option maxRecDepth 100000 in
theorem zc655 : wZ (.static yX1_layDown) := ⟨wT3 (List.mem_of_getElem? (i := 127) (by decide +kernel)), Or.inl rfl⟩
set_option maxRecDepth 100000 in
theorem zc656 : wZ (.methodLink RX1 74 yX1_layDown) := ⟨wT3 (List.mem_of_getElem? (i := 126) (by decide +kernel)), Or.inl rfl⟩
set_option maxRecDepth 100000 in
theorem zc657 : wZ (.static yX1_addWords) := ⟨wT3 (List.mem_of_getElem? (i := 120) (by decide +kernel)), Or.inl rfl⟩
set_option maxRecDepth 100000 in
theorem zc658 : wZ (.methodLink RX1 70 yX1_addWords) := ⟨wT3 (List.mem_of_getElem? (i := 119) (by decide +kernel)), Or.inl rfl⟩
set_option maxRecDepth 100000 in
theorem zc659 : wZ (.static yX1_setSpan) := ⟨wT3 (List.mem_of_getElem? (i := 116) (by decide +kernel)), Or.inl rfl⟩
set_option maxRecDepth 100000 in
theorem zc660 : wZ (.methodLink RX1 66 yX1_setSpan) := ⟨wT3 (List.mem_of_getElem? (i := 115) (by decide +kernel)), Or.inl rfl⟩
set_option maxRecDepth 100000 in
theorem zc661 : wZ (.static yX1_begin) := ⟨wT2 (List.mem_of_getElem? (i := 231) (by decide +kernel)), Or.inl rfl⟩
set_option maxRecDepth 100000 in
theorem zc662 : wZ (.methodLink RX1 62 yX1_begin) := ⟨wT2 (List.mem_of_getElem? (i := 230) (by decide +kernel)), Or.inl rfl⟩
set_option maxRecDepth 100000 in
theorem zc663 : wZ (.static yX1_speak) := ⟨wT2 (List.mem_of_getElem? (i := 228) (by decide +kernel)), Or.inl rfl⟩
set_option maxRecDepth 100000 in
theorem zc664 : wZ (.methodLink RX1 58 yX1_speak) := ⟨wT2 (List.mem_of_getElem? (i := 227) (by decide +kernel)), Or.inl rfl⟩
set_option maxRecDepth 100000 in
theorem zc665 : wZ (.static yX1_cedeFloor) := ⟨wT2 (List.mem_of_getElem? (i := 225) (by decide +kernel)), Or.inl rfl⟩
set_option maxRecDepth 100000 in
theorem zc666 : wZ (.methodLink RX1 54 yX1_cedeFloor) := ⟨wT2 (List.mem_of_getElem? (i := 224) (by decide +kernel)), Or.inl rfl⟩
set_option maxRecDepth 100000 in
theorem zc667 : wZ (.initialized RX1) := ⟨wT1 (List.mem_of_getElem? (i := 13) (by decide +kernel)), Or.inl rfl⟩
set_option maxRecDepth 100000 in
theorem zc668 : wZ (.static yX1_giveFloor) := ⟨wT2 (List.mem_of_getElem? (i := 222) (by decide +kernel)), Or.inl rfl⟩
set_option maxRecDepth 100000 in
theorem zc669 : wZ (.methodLink RX1 48 yX1_giveFloor) := ⟨wT2 (List.mem_of_getElem? (i := 221) (by decide +kernel)), Or.inl rfl⟩
set_option maxRecDepth 100000 in
theorem zc670 : wZ (.fieldLink RX1 45 "MotionFloor$House" "limit" "I") := ⟨wT1 (List.mem_of_getElem? (i := 50) (by decide +kernel)), Or.inl rfl⟩
set_option maxRecDepth 100000 in
theorem zc671 : wZ (.selects RX2 yX2_replaceMajority yX2_replaceMajority) := ⟨wT2 (List.mem_of_getElem? (i := 219) (by decide +kernel)), Or.inl rfl⟩
set_option maxRecDepth 100000 in
theorem zc672 : wZ (.instanceMethod yX2_replaceMajority) := ⟨wT2 (List.mem_of_getElem? (i := 218) (by decide +kernel)), Or.inl rfl⟩
set_option maxRecDepth 100000 in
theorem zc673 : wZ (.methodLink RX1 41 yX2_replaceMajority) := ⟨wT2 (List.mem_of_getElem? (i := 217) (by decide +kernel)), Or.inl rfl⟩
set_option maxRecDepth 100000 in
theorem zc674 : wZ (.selects RX2 yX2_takeChair yX2_takeChair) := ⟨wT2 (List.mem_of_getElem? (i := 215) (by decide +kernel)), Or.inl rfl⟩
set_option maxRecDepth 100000 in
theorem zc675 : wZ (.instanceMethod yX2_takeChair) := ⟨wT2 (List.mem_of_getElem? (i := 214) (by decide +kernel)), Or.inl rfl⟩
set_option maxRecDepth 100000 in
theorem zc676 : wZ (.methodLink RX1 38 yX2_takeChair) := ⟨wT2 (List.mem_of_getElem? (i := 213) (by decide +kernel)), Or.inl rfl⟩
set_option maxRecDepth 100000 in
theorem zc677 : wZ (.fieldLink RX1 34 "MotionFloor$House" "quorum" "I") := ⟨wT1 (List.mem_of_getElem? (i := 47) (by decide +kernel)), Or.inl rfl⟩
set_option maxRecDepth 100000 in
theorem zc678 : wZ (.selects RX2 yX2_leave yX2_leave) := ⟨wT2 (List.mem_of_getElem? (i := 205) (by decide +kernel)), Or.inl rfl⟩
set_option maxRecDepth 100000 in
theorem zc679 : wZ (.instanceMethod yX2_leave) := ⟨wT2 (List.mem_of_getElem? (i := 204) (by decide +kernel)), Or.inl rfl⟩
set_option maxRecDepth 100000 in
theorem zc680 : wZ (.methodLink RX1 31 yX2_leave) := ⟨wT2 (List.mem_of_getElem? (i := 203) (by decide +kernel)), Or.inl rfl⟩
set_option maxRecDepth 100000 in
theorem zc681 : wZ (.selects RX2 yX2_arrive yX2_arrive) := ⟨wT2 (List.mem_of_getElem? (i := 200) (by decide +kernel)), Or.inl rfl⟩
set_option maxRecDepth 100000 in
theorem zc682 : wZ (.instanceMethod yX2_arrive) := ⟨wT2 (List.mem_of_getElem? (i := 199) (by decide +kernel)), Or.inl rfl⟩
set_option maxRecDepth 100000 in
theorem zc683 : wZ (.methodLink RX1 25 yX2_arrive) := ⟨wT2 (List.mem_of_getElem? (i := 198) (by decide +kernel)), Or.inl rfl⟩
set_option maxRecDepth 100000 in
theorem zc684 : wZ (.code yX1_perform cX1_perform 7 (some .int)) := ⟨wT2 (List.mem_of_getElem? (i := 196) rfl), Or.inl rfl⟩
def b_Y1_perform_120a (S : Cst) (x0 : Nat) (x1 : Int32) (x2 : Int32) (x3 : Int32) (x4 : Int32) (x5 : Int32) (x6 : Option Nat) (y0 : Int32) : Int32 × Cst := (y0, S)
def q_Y1_perform_120a (S : Cst) (x0 : Nat) (lc : Nat) (ls : Nat) (x1 : Int32) (x2 : Int32) (x3 : Int32) (x4 : Int32) (x5 : Int32) (x6 : Option Nat) (y0 : Int32) : Prop := True
def b_Y1_perform_129a (S : Cst) (x0 : Nat) (x1 : Int32) (x2 : Int32) (x3 : Int32) (x4 : Int32) (x5 : Int32) (x6 : Option Nat) (y0 : Int32) : Int32 × Cst := (y0, S)
def q_Y1_perform_129a (S : Cst) (x0 : Nat) (lc : Nat) (ls : Nat) (x1 : Int32) (x2 : Int32) (x3 : Int32) (x4 : Int32) (x5 : Int32) (x6 : Option Nat) (y0 : Int32) : Prop := True
def b_Y1_perform_148a (S : Cst) (x0 : Nat) (x1 : Int32) (x2 : Int32) (x3 : Int32) (x4 : Int32) (x5 : Int32) (x6 : Option Nat) (y0 : Int32) : Int32 × Cst := (y0, S)
def q_Y1_perform_148a (S : Cst) (x0 : Nat) (lc : Nat) (ls : Nat) (x1 : Int32) (x2 : Int32) (x3 : Int32) (x4 : Int32) (x5 : Int32) (x6 : Option Nat) (y0 : Int32) : Prop := True
def b_Y1_perform_158a (S : Cst) (x0 : Nat) (x1 : Int32) (x2 : Int32) (x3 : Int32) (x4 : Int32) (x5 : Int32) (x6 : Option Nat) (y0 : Int32) : Int32 × Cst := (y0, S)
def q_Y1_perform_158a (S : Cst) (x0 : Nat) (lc : Nat) (ls : Nat) (x1 : Int32) (x2 : Int32) (x3 : Int32) (x4 : Int32) (x5 : Int32) (x6 : Option Nat) (y0 : Int32) : Prop := True
def b_Y1_perform_179a (S : Cst) (x0 : Nat) (x1 : Int32) (x2 : Int32) (x3 : Int32) (x4 : Int32) (x5 : Int32) (x6 : Option Nat) (y0 : Int32) : Int32 × Cst := (y0, S)
def q_Y1_perform_179a (S : Cst) (x0 : Nat) (lc : Nat) (ls : Nat) (x1 : Int32) (x2 : Int32) (x3 : Int32) (x4 : Int32) (x5 : Int32) (x6 : Option Nat) (y0 : Int32) : Prop := True
def b_Y1_perform_187a (S : Cst) (x0 : Nat) (x1 : Int32) (x2 : Int32) (x3 : Int32) (x4 : Int32) (x5 : Int32) (x6 : Option Nat) (y0 : Int32) : Int32 × Cst := (y0, S)
def q_Y1_perform_187a (S : Cst) (x0 : Nat) (lc : Nat) (ls : Nat) (x1 : Int32) (x2 : Int32) (x3 : Int32) (x4 : Int32) (x5 : Int32) (x6 : Option Nat) (y0 : Int32) : Prop := True
def b_Y1_perform_193a (S : Cst) (x0 : Nat) (x1 : Int32) (x2 : Int32) (x3 : Int32) (x4 : Int32) (x5 : Int32) (x6 : Option Nat) (y0 : Int32) : Int32 × Cst := (y0, S)
def q_Y1_perform_193a (S : Cst) (x0 : Nat) (lc : Nat) (ls : Nat) (x1 : Int32) (x2 : Int32) (x3 : Int32) (x4 : Int32) (x5 : Int32) (x6 : Option Nat) (y0 : Int32) : Prop := True
def b_Y1_perform_199a (S : Cst) (x0 : Nat) (x1 : Int32) (x2 : Int32) (x3 : Int32) (x4 : Int32) (x5 : Int32) (x6 : Option Nat) (y0 : Int32) : Int32 × Cst := (y0, S)
def q_Y1_perform_199a (S : Cst) (x0 : Nat) (lc : Nat) (ls : Nat) (x1 : Int32) (x2 : Int32) (x3 : Int32) (x4 : Int32) (x5 : Int32) (x6 : Option Nat) (y0 : Int32) : Prop := True
def b_Y1_perform_206a (S : Cst) (x0 : Nat) (x1 : Int32) (x2 : Int32) (x3 : Int32) (x4 : Int32) (x5 : Int32) (x6 : Option Nat) (y0 : Int32) : Int32 × Cst := (y0, S)
def q_Y1_perform_206a (S : Cst) (x0 : Nat) (lc : Nat) (ls : Nat) (x1 : Int32) (x2 : Int32) (x3 : Int32) (x4 : Int32) (x5 : Int32) (x6 : Option Nat) (y0 : Int32) : Prop := True
def b_Y1_perform_217a (S : Cst) (x0 : Nat) (x1 : Int32) (x2 : Int32) (x3 : Int32) (x4 : Int32) (x5 : Int32) (x6 : Option Nat) (y0 : Int32) : Int32 × Cst := (y0, S)
def q_Y1_perform_217a (S : Cst) (x0 : Nat) (lc : Nat) (ls : Nat) (x1 : Int32) (x2 : Int32) (x3 : Int32) (x4 : Int32) (x5 : Int32) (x6 : Option Nat) (y0 : Int32) : Prop := True
def b_Y1_perform_223a (S : Cst) (x0 : Nat) (x1 : Int32) (x2 : Int32) (x3 : Int32) (x4 : Int32) (x5 : Int32) (x6 : Option Nat) (y0 : Int32) : Int32 × Cst := (y0, S)
def q_Y1_perform_223a (S : Cst) (x0 : Nat) (lc : Nat) (ls : Nat) (x1 : Int32) (x2 : Int32) (x3 : Int32) (x4 : Int32) (x5 : Int32) (x6 : Option Nat) (y0 : Int32) : Prop := True
def b_Y1_perform_229a (S : Cst) (x0 : Nat) (x1 : Int32) (x2 : Int32) (x3 : Int32) (x4 : Int32) (x5 : Int32) (x6 : Option Nat) (y0 : Int32) : Int32 × Cst := (y0, S)
def q_Y1_perform_229a (S : Cst) (x0 : Nat) (lc : Nat) (ls : Nat) (x1 : Int32) (x2 : Int32) (x3 : Int32) (x4 : Int32) (x5 : Int32) (x6 : Option Nat) (y0 : Int32) : Prop := True
def b_Y1_perform_235a (S : Cst) (x0 : Nat) (x1 : Int32) (x2 : Int32) (x3 : Int32) (x4 : Int32) (x5 : Int32) (x6 : Option Nat) (y0 : Int32) : Int32 × Cst := (y0, S)
def q_Y1_perform_235a (S : Cst) (x0 : Nat) (lc : Nat) (ls : Nat) (x1 : Int32) (x2 : Int32) (x3 : Int32) (x4 : Int32) (x5 : Int32) (x6 : Option Nat) (y0 : Int32) : Prop := True
def b_Y1_perform_242a (S : Cst) (x0 : Nat) (x1 : Int32) (x2 : Int32) (x3 : Int32) (x4 : Int32) (x5 : Int32) (x6 : Option Nat) (y0 : Int32) : Int32 × Cst := (y0, S)
def q_Y1_perform_242a (S : Cst) (x0 : Nat) (lc : Nat) (ls : Nat) (x1 : Int32) (x2 : Int32) (x3 : Int32) (x4 : Int32) (x5 : Int32) (x6 : Option Nat) (y0 : Int32) : Prop := True
def b_Y1_perform_236 (S : Cst) (x0 : Nat) (x1 : Int32) (x2 : Int32) (x3 : Int32) (x4 : Int32) (x5 : Int32) (x6 : Option Nat) : Int32 × Cst := (b_Y1_perform_242a ((f_Y1_support S x6 x2).2) x0 x1 x2 x3 x4 x5 x6 ((f_Y1_support S x6 x2).1))
def q_Y1_perform_236 (S : Cst) (x0 : Nat) (lc : Nat) (ls : Nat) (x1 : Int32) (x2 : Int32) (x3 : Int32) (x4 : Int32) (x5 : Int32) (x6 : Option Nat) : Prop := (p_Y1_support S x6 x2) ∧ (q_Y1_perform_242a ((f_Y1_support S x6 x2).2) x0 lc ls x1 x2 x3 x4 x5 x6 ((f_Y1_support S x6 x2).1))
def b_Y1_perform_259 (S : Cst) (x0 : Nat) (x1 : Int32) (x2 : Int32) (x3 : Int32) (x4 : Int32) (x5 : Int32) (x6 : Option Nat) (y0 : Int32) : Int32 × Cst := (y0, S)
def q_Y1_perform_259 (S : Cst) (x0 : Nat) (lc : Nat) (ls : Nat) (x1 : Int32) (x2 : Int32) (x3 : Int32) (x4 : Int32) (x5 : Int32) (x6 : Option Nat) (y0 : Int32) : Prop := True
def b_Y1_perform_268a (S : Cst) (x0 : Nat) (x1 : Int32) (x2 : Int32) (x3 : Int32) (x4 : Int32) (x5 : Int32) (x6 : Option Nat) : Int32 × Cst := ((giC S ((grC S x0 1).getD 0) 1), S)
def q_Y1_perform_268a (S : Cst) (x0 : Nat) (lc : Nat) (ls : Nat) (x1 : Int32) (x2 : Int32) (x3 : Int32) (x4 : Int32) (x5 : Int32) (x6 : Option Nat) : Prop := (iR S (grC S x0 1) 4) ∧ True
def b_Y1_perform_280a (S : Cst) (x0 : Nat) (x1 : Int32) (x2 : Int32) (x3 : Int32) (x4 : Int32) (x5 : Int32) (x6 : Option Nat) (y0 : Int32) : Int32 × Cst := (y0, S)
def q_Y1_perform_280a (S : Cst) (x0 : Nat) (lc : Nat) (ls : Nat) (x1 : Int32) (x2 : Int32) (x3 : Int32) (x4 : Int32) (x5 : Int32) (x6 : Option Nat) (y0 : Int32) : Prop := True
def b_Y1_perform_296 (S : Cst) (x0 : Nat) (x1 : Int32) (x2 : Int32) (x3 : Int32) (x4 : Int32) (x5 : Int32) (x6 : Option Nat) (y0 : Int32) : Int32 × Cst := (y0, S)
def q_Y1_perform_296 (S : Cst) (x0 : Nat) (lc : Nat) (ls : Nat) (x1 : Int32) (x2 : Int32) (x3 : Int32) (x4 : Int32) (x5 : Int32) (x6 : Option Nat) (y0 : Int32) : Prop := True
def b_Y1_perform_301a (S : Cst) (x0 : Nat) (x1 : Int32) (x2 : Int32) (x3 : Int32) (x4 : Int32) (x5 : Int32) (x6 : Option Nat) (y0 : Int32) : Int32 × Cst := (y0, S)
def q_Y1_perform_301a (S : Cst) (x0 : Nat) (lc : Nat) (ls : Nat) (x1 : Int32) (x2 : Int32) (x3 : Int32) (x4 : Int32) (x5 : Int32) (x6 : Option Nat) (y0 : Int32) : Prop := True
def f_Y1_perform (S : Cst) (x0 : Nat) (x1 : Int32) (x2 : Int32) (x3 : Int32) (x4 : Int32) (x5 : Int32) : Int32 × Cst := if x1 = 1 then (b_Y1_perform_120a ((f_Y2_arrive S ((grC S x0 0).getD 0) x2).2) x0 x1 x2 x3 x4 x5 (f_Y5_top S ((grC S x0 1).getD 0)) ((f_Y2_arrive S ((grC S x0 0).getD 0) x2).1)) else if x1 = 2 then (b_Y1_perform_129a ((f_Y2_leave S ((grC S x0 0).getD 0) x2).2) x0 x1 x2 x3 x4 x5 (f_Y5_top S ((grC S x0 1).getD 0)) ((f_Y2_leave S ((grC S x0 0).getD 0) x2).1)) else if x1 = 3 then (x2, (siC S ((grC S x0 0).getD 0) 4 x2)) else if x1 = 4 then (b_Y1_perform_148a ((f_Y2_takeChair S ((grC S x0 0).getD 0) x2).2) x0 x1 x2 x3 x4 x5 (f_Y5_top S ((grC S x0 1).getD 0)) ((f_Y2_takeChair S ((grC S x0 0).getD 0) x2).1)) else if x1 = 5 then (b_Y1_perform_158a ((f_Y2_replaceMajority S ((grC S x0 0).getD 0) x2 x3).2) x0 x1 x2 x3 x4 x5 (f_Y5_top S ((grC S x0 1).getD 0)) ((f_Y2_replaceMajority S ((grC S x0 0).getD 0) x2 x3).1)) else if x1 = 6 then (x2, (siC S ((grC S x0 0).getD 0) 5 x2)) else if x1 = 7 then (b_Y1_perform_179a ((f_Y1_giveFloor S ((grC S x0 0).getD 0) (f_Y5_top S ((grC S x0 1).getD 0)) x2).2) x0 x1 x2 x3 x4 x5 (f_Y5_top S ((grC S x0 1).getD 0)) ((f_Y1_giveFloor S ((grC S x0 0).getD 0) (f_Y5_top S ((grC S x0 1).getD 0)) x2).1)) else if x1 = 8 then (b_Y1_perform_187a ((f_Y1_cedeFloor S ((grC S x0 0).getD 0)).2) x0 x1 x2 x3 x4 x5 (f_Y5_top S ((grC S x0 1).getD 0)) ((f_Y1_cedeFloor S ((grC S x0 0).getD 0)).1)) else if x1 = 9 then (b_Y1_perform_193a ((f_Y1_speak S (f_Y5_top S ((grC S x0 1).getD 0))).2) x0 x1 x2 x3 x4 x5 (f_Y5_top S ((grC S x0 1).getD 0)) ((f_Y1_speak S (f_Y5_top S ((grC S x0 1).getD 0))).1)) else if x1 = 10 then (b_Y1_perform_199a ((f_Y1_begin S x0 x2).2) x0 x1 x2 x3 x4 x5 (f_Y5_top S ((grC S x0 1).getD 0)) ((f_Y1_begin S x0 x2).1)) else if x1 = 11 then (b_Y1_perform_206a ((f_Y1_setSpan S x0 x2 x3).2) x0 x1 x2 x3 x4 x5 (f_Y5_top S ((grC S x0 1).getD 0)) ((f_Y1_setSpan S x0 x2 x3).1)) else if x1 = 12 then (b_Y1_perform_217a ((f_Y1_addWords S x0 x2 x3 x4 x5).2) x0 x1 x2 x3 x4 x5 (f_Y5_top S ((grC S x0 1).getD 0)) ((f_Y1_addWords S x0 x2 x3 x4 x5).1)) else if x1 = 13 then (b_Y1_perform_223a ((f_Y1_layDown S x0 x2).2) x0 x1 x2 x3 x4 x5 (f_Y5_top S ((grC S x0 1).getD 0)) ((f_Y1_layDown S x0 x2).1)) else if x1 = 14 then (b_Y1_perform_229a ((f_Y1_takeUp S x0 x2).2) x0 x1 x2 x3 x4 x5 (f_Y5_top S ((grC S x0 1).getD 0)) ((f_Y1_takeUp S x0 x2).1)) else if x1 = 15 then (b_Y1_perform_235a ((f_Y1_bringUp S x0 x2).2) x0 x1 x2 x3 x4 x5 (f_Y5_top S ((grC S x0 1).getD 0)) ((f_Y1_bringUp S x0 x2).1)) else if x1 = 16 then (b_Y1_perform_236 S x0 x1 x2 x3 x4 x5 (f_Y5_top S ((grC S x0 1).getD 0))) else if x1 = 17 then if (f_Y5_top S ((grC S x0 1).getD 0)) = none then (b_Y1_perform_259 S x0 x1 x2 x3 x4 x5 (f_Y5_top S ((grC S x0 1).getD 0)) 0) else (b_Y1_perform_259 ((f_Y4_castVote S ((f_Y5_top S ((grC S x0 1).getD 0)).getD 0) x2 x3).2) x0 x1 x2 x3 x4 x5 (f_Y5_top S ((grC S x0 1).getD 0)) ((f_Y4_castVote S ((f_Y5_top S ((grC S x0 1).getD 0)).getD 0) x2 x3).1)) else if x1 = 18 then (b_Y1_perform_268a ((f_Y0_dropTop S x0 ((grC S x0 1).getD 0)).2) x0 x1 x2 x3 x4 x5 (f_Y5_top S ((grC S x0 1).getD 0))) else if x1 = 19 then (b_Y1_perform_280a ((f_Y1_putRuling S x0).2) x0 x1 x2 x3 x4 x5 (f_Y5_top S ((grC S x0 1).getD 0)) ((f_Y1_putRuling S x0).1)) else if x1 = 20 then (b_Y1_perform_236 S x0 x1 x2 x3 x4 x5 (f_Y5_top S ((grC S x0 1).getD 0))) else if x1 = 21 then if (f_Y5_top S ((grC S x0 1).getD 0)) = none then (b_Y1_perform_296 S x0 x1 x2 x3 x4 x5 (f_Y5_top S ((grC S x0 1).getD 0)) 0) else (b_Y1_perform_296 ((f_Y7_announce S x0 (f_Y5_top S ((grC S x0 1).getD 0))).2) x0 x1 x2 x3 x4 x5 (f_Y5_top S ((grC S x0 1).getD 0)) ((f_Y7_announce S x0 (f_Y5_top S ((grC S x0 1).getD 0))).1)) else if x1 = 22 then (b_Y1_perform_301a ((f_Y1_endSitting S x0).2) x0 x1 x2 x3 x4 x5 (f_Y5_top S ((grC S x0 1).getD 0)) ((f_Y1_endSitting S x0).1)) else ((0 : Int32), S)
def p_Y1_perform (S : Cst) (x0 : Nat) (lc : Nat) (ls : Nat) (x1 : Int32) (x2 : Int32) (x3 : Int32) (x4 : Int32) (x5 : Int32) : Prop := (iR S (grC S x0 1) 4) ∧ (p_Y5_top S ((grC S x0 1).getD 0)) ∧ (if x1 = 1 then (iR S (grC S x0 0) 1) ∧ (p_Y2_arrive S ((grC S x0 0).getD 0) x2) ∧ (q_Y1_perform_120a ((f_Y2_arrive S ((grC S x0 0).getD 0) x2).2) x0 lc ls x1 x2 x3 x4 x5 (f_Y5_top S ((grC S x0 1).getD 0)) ((f_Y2_arrive S ((grC S x0 0).getD 0) x2).1)) else (if x1 = 2 then (iR S (grC S x0 0) 1) ∧ (p_Y2_leave S ((grC S x0 0).getD 0) x2) ∧ (q_Y1_perform_129a ((f_Y2_leave S ((grC S x0 0).getD 0) x2).2) x0 lc ls x1 x2 x3 x4 x5 (f_Y5_top S ((grC S x0 1).getD 0)) ((f_Y2_leave S ((grC S x0 0).getD 0) x2).1)) else (if x1 = 3 then (iR S (grC S x0 0) 1) ∧ True else (if x1 = 4 then (iR S (grC S x0 0) 1) ∧ (p_Y2_takeChair S ((grC S x0 0).getD 0) x2) ∧ (q_Y1_perform_148a ((f_Y2_takeChair S ((grC S x0 0).getD 0) x2).2) x0 lc ls x1 x2 x3 x4 x5 (f_Y5_top S ((grC S x0 1).getD 0)) ((f_Y2_takeChair S ((grC S x0 0).getD 0) x2).1)) else (if x1 = 5 then (iR S (grC S x0 0) 1) ∧ (p_Y2_replaceMajority S ((grC S x0 0).getD 0) x2 x3) ∧ (q_Y1_perform_158a ((f_Y2_replaceMajority S ((grC S x0 0).getD 0) x2 x3).2) x0 lc ls x1 x2 x3 x4 x5 (f_Y5_top S ((grC S x0 1).getD 0)) ((f_Y2_replaceMajority S ((grC S x0 0).getD 0) x2 x3).1)) else (if x1 = 6 then (iR S (grC S x0 0) 1) ∧ True else (if x1 = 7 then (iR S (grC S x0 0) 1) ∧ (p_Y1_giveFloor S ((grC S x0 0).getD 0) (f_Y5_top S ((grC S x0 1).getD 0)) x2) ∧ (q_Y1_perform_179a ((f_Y1_giveFloor S ((grC S x0 0).getD 0) (f_Y5_top S ((grC S x0 1).getD 0)) x2).2) x0 lc ls x1 x2 x3 x4 x5 (f_Y5_top S ((grC S x0 1).getD 0)) ((f_Y1_giveFloor S ((grC S x0 0).getD 0) (f_Y5_top S ((grC S x0 1).getD 0)) x2).1)) else (if x1 = 8 then (iR S (grC S x0 0) 1) ∧ (p_Y1_cedeFloor S ((grC S x0 0).getD 0)) ∧ (q_Y1_perform_187a ((f_Y1_cedeFloor S ((grC S x0 0).getD 0)).2) x0 lc ls x1 x2 x3 x4 x5 (f_Y5_top S ((grC S x0 1).getD 0)) ((f_Y1_cedeFloor S ((grC S x0 0).getD 0)).1)) else (if x1 = 9 then (p_Y1_speak S (f_Y5_top S ((grC S x0 1).getD 0))) ∧ (q_Y1_perform_193a ((f_Y1_speak S (f_Y5_top S ((grC S x0 1).getD 0))).2) x0 lc ls x1 x2 x3 x4 x5 (f_Y5_top S ((grC S x0 1).getD 0)) ((f_Y1_speak S (f_Y5_top S ((grC S x0 1).getD 0))).1)) else (if x1 = 10 then ((S.1 ≤ (f_Y1_begin S x0 x2).2.1 ∧ (f_Y1_begin S x0 x2).2.1 ≤ lc) ∧ (S.2.1 ≤ (f_Y1_begin S x0 x2).2.2.1 ∧ (f_Y1_begin S x0 x2).2.2.1 ≤ ls)) ∧ (p_Y1_begin S x0 (f_Y1_begin S x0 x2).2.1 (f_Y1_begin S x0 x2).2.2.1 x2) ∧ (vR S (f_Y5_top S ((grC S x0 1).getD 0))) ∧ (q_Y1_perform_199a ((f_Y1_begin S x0 x2).2) x0 lc ls x1 x2 x3 x4 x5 (f_Y5_top S ((grC S x0 1).getD 0)) ((f_Y1_begin S x0 x2).1)) else (if x1 = 11 then (p_Y1_setSpan S x0 x2 x3) ∧ (q_Y1_perform_206a ((f_Y1_setSpan S x0 x2 x3).2) x0 lc ls x1 x2 x3 x4 x5 (f_Y5_top S ((grC S x0 1).getD 0)) ((f_Y1_setSpan S x0 x2 x3).1)) else (if x1 = 12 then (p_Y1_addWords S x0 x2 x3 x4 x5) ∧ (q_Y1_perform_217a ((f_Y1_addWords S x0 x2 x3 x4 x5).2) x0 lc ls x1 x2 x3 x4 x5 (f_Y5_top S ((grC S x0 1).getD 0)) ((f_Y1_addWords S x0 x2 x3 x4 x5).1)) else (if x1 = 13 then (p_Y1_layDown S x0 x2) ∧ (q_Y1_perform_223a ((f_Y1_layDown S x0 x2).2) x0 lc ls x1 x2 x3 x4 x5 (f_Y5_top S ((grC S x0 1).getD 0)) ((f_Y1_layDown S x0 x2).1)) else (if x1 = 14 then (p_Y1_takeUp S x0 x2) ∧ (q_Y1_perform_229a ((f_Y1_takeUp S x0 x2).2) x0 lc ls x1 x2 x3 x4 x5 (f_Y5_top S ((grC S x0 1).getD 0)) ((f_Y1_takeUp S x0 x2).1)) else (if x1 = 15 then (p_Y1_bringUp S x0 x2) ∧ (q_Y1_perform_235a ((f_Y1_bringUp S x0 x2).2) x0 lc ls x1 x2 x3 x4 x5 (f_Y5_top S ((grC S x0 1).getD 0)) ((f_Y1_bringUp S x0 x2).1)) else (if x1 = 16 then (q_Y1_perform_236 S x0 lc ls x1 x2 x3 x4 x5 (f_Y5_top S ((grC S x0 1).getD 0))) else (if x1 = 17 then (if (f_Y5_top S ((grC S x0 1).getD 0)) = none then (q_Y1_perform_259 S x0 lc ls x1 x2 x3 x4 x5 (f_Y5_top S ((grC S x0 1).getD 0)) 0) else (iR S (f_Y5_top S ((grC S x0 1).getD 0)) 3) ∧ (p_Y4_castVote S ((f_Y5_top S ((grC S x0 1).getD 0)).getD 0) x2 x3) ∧ (q_Y1_perform_259 ((f_Y4_castVote S ((f_Y5_top S ((grC S x0 1).getD 0)).getD 0) x2 x3).2) x0 lc ls x1 x2 x3 x4 x5 (f_Y5_top S ((grC S x0 1).getD 0)) ((f_Y4_castVote S ((f_Y5_top S ((grC S x0 1).getD 0)).getD 0) x2 x3).1))) else (if x1 = 18 then (iR S (grC S x0 1) 4) ∧ (p_Y0_dropTop S x0 ((grC S x0 1).getD 0)) ∧ (q_Y1_perform_268a ((f_Y0_dropTop S x0 ((grC S x0 1).getD 0)).2) x0 lc ls x1 x2 x3 x4 x5 (f_Y5_top S ((grC S x0 1).getD 0))) else (if x1 = 19 then ((S.1 ≤ (f_Y1_putRuling S x0).2.1 ∧ (f_Y1_putRuling S x0).2.1 ≤ lc) ∧ (S.2.1 ≤ (f_Y1_putRuling S x0).2.2.1 ∧ (f_Y1_putRuling S x0).2.2.1 ≤ ls)) ∧ (p_Y1_putRuling S x0 (f_Y1_putRuling S x0).2.1 (f_Y1_putRuling S x0).2.2.1) ∧ (vR S (f_Y5_top S ((grC S x0 1).getD 0))) ∧ (q_Y1_perform_280a ((f_Y1_putRuling S x0).2) x0 lc ls x1 x2 x3 x4 x5 (f_Y5_top S ((grC S x0 1).getD 0)) ((f_Y1_putRuling S x0).1)) else (if x1 = 20 then (q_Y1_perform_236 S x0 lc ls x1 x2 x3 x4 x5 (f_Y5_top S ((grC S x0 1).getD 0))) else (if x1 = 21 then (if (f_Y5_top S ((grC S x0 1).getD 0)) = none then (q_Y1_perform_296 S x0 lc ls x1 x2 x3 x4 x5 (f_Y5_top S ((grC S x0 1).getD 0)) 0) else ((S.1 ≤ (f_Y7_announce S x0 (f_Y5_top S ((grC S x0 1).getD 0))).2.1 ∧ (f_Y7_announce S x0 (f_Y5_top S ((grC S x0 1).getD 0))).2.1 ≤ lc) ∧ (S.2.1 ≤ (f_Y7_announce S x0 (f_Y5_top S ((grC S x0 1).getD 0))).2.2.1 ∧ (f_Y7_announce S x0 (f_Y5_top S ((grC S x0 1).getD 0))).2.2.1 ≤ ls)) ∧ (p_Y7_announce S x0 (f_Y7_announce S x0 (f_Y5_top S ((grC S x0 1).getD 0))).2.1 (f_Y7_announce S x0 (f_Y5_top S ((grC S x0 1).getD 0))).2.2.1 (f_Y5_top S ((grC S x0 1).getD 0))) ∧ (vR S (f_Y5_top S ((grC S x0 1).getD 0))) ∧ (q_Y1_perform_296 ((f_Y7_announce S x0 (f_Y5_top S ((grC S x0 1).getD 0))).2) x0 lc ls x1 x2 x3 x4 x5 (f_Y5_top S ((grC S x0 1).getD 0)) ((f_Y7_announce S x0 (f_Y5_top S ((grC S x0 1).getD 0))).1))) else (if x1 = 22 then (p_Y1_endSitting S x0) ∧ (q_Y1_perform_301a ((f_Y1_endSitting S x0).2) x0 lc ls x1 x2 x3 x4 x5 (f_Y5_top S ((grC S x0 1).getD 0)) ((f_Y1_endSitting S x0).1)) else True))))))))))))))))))))))
def e_Y1_perform : List Cond := [.fieldLink RX1 9 "MotionFloor$Assembly" "pending" "LMotionFloor$Pile;", .methodLink RX1 15 yX5_top, .instanceMethod yX5_top, .selects RX5 yX5_top yX5_top, .initialized RX5, .fieldLink RX1 21 "MotionFloor$Assembly" "house" "LMotionFloor$House;", .methodLink RX1 25 yX2_arrive, .instanceMethod yX2_arrive, .selects RX2 yX2_arrive yX2_arrive, .initialized RX2, .methodLink RX1 31 yX2_leave, .instanceMethod yX2_leave, .selects RX2 yX2_leave yX2_leave, .fieldLink RX1 34 "MotionFloor$House" "quorum" "I", .methodLink RX1 38 yX2_takeChair, .instanceMethod yX2_takeChair, .selects RX2 yX2_takeChair yX2_takeChair, .methodLink RX1 41 yX2_replaceMajority, .instanceMethod yX2_replaceMajority, .selects RX2 yX2_replaceMajority yX2_replaceMajority, .fieldLink RX1 45 "MotionFloor$House" "limit" "I", .methodLink RX1 48 yX1_giveFloor, .static yX1_giveFloor, .initialized RX1, .methodLink RX1 54 yX1_cedeFloor, .static yX1_cedeFloor, .methodLink RX1 58 yX1_speak, .static yX1_speak, .methodLink RX1 62 yX1_begin, .static yX1_begin, .methodLink RX1 66 yX1_setSpan, .static yX1_setSpan, .methodLink RX1 70 yX1_addWords, .static yX1_addWords, .methodLink RX1 74 yX1_layDown, .static yX1_layDown, .methodLink RX1 77 yX1_takeUp, .static yX1_takeUp, .methodLink RX1 80 yX1_bringUp, .static yX1_bringUp, .methodLink RX1 83 yX1_support, .static yX1_support, .methodLink RX1 87 yX4_castVote, .instanceMethod yX4_castVote, .selects RX4 yX4_castVote yX4_castVote, .initialized RX4, .methodLink RX1 92 yX0_dropTop, .instanceMethod yX0_dropTop, .selects RX0 yX0_dropTop yX0_dropTop, .initialized RX0, .fieldLink RX1 96 "MotionFloor$Pile" "size" "I", .methodLink RX1 99 yX1_putRuling, .static yX1_putRuling, .methodLink RX1 103 yX7_announce, .static yX7_announce, .initialized RX7, .methodLink RX1 109 yX1_endSitting, .static yX1_endSitting]
def v_Y1_perform : List Cond := .code yX1_perform cX1_perform 7 (some .int) :: (e_Y1_perform ++ (wsX00 ++ (wsX20 ++ (wsX50 ++ (v_Y5_top ++ (v_Y2_arrive ++ (v_Y2_leave ++ (v_Y2_takeChair ++ (v_Y2_replaceMajority ++ (v_Y1_giveFloor ++ (v_Y1_cedeFloor ++ (v_Y1_speak ++ (v_Y1_begin ++ (v_Y1_setSpan ++ (v_Y1_addWords ++ (v_Y1_layDown ++ (v_Y1_takeUp ++ (v_Y1_bringUp ++ (v_Y1_support ++ (v_Y4_castVote ++ (v_Y0_dropTop ++ (v_Y1_putRuling ++ (v_Y7_announce ++ (v_Y1_endSitting ++ []))))))))))))))))))))))))
theorem te_Y1_perform : GoodIn lw_tbl e_Y1_perform := wGc zc181 (wGc zc180 (wGc zc179 (wGc zc178 (wGc zc34 (wGc zc196 (wGc zc683 (wGc zc682 (wGc zc681 (wGc zc77 (wGc zc680 (wGc zc679 (wGc zc678 (wGc zc677 (wGc zc676 (wGc zc675 (wGc zc674 (wGc zc673 (wGc zc672 (wGc zc671 (wGc zc670 (wGc zc669 (wGc zc668 (wGc zc667 (wGc zc666 (wGc zc665 (wGc zc664 (wGc zc663 (wGc zc662 (wGc zc661 (wGc zc660 (wGc zc659 (wGc zc658 (wGc zc657 (wGc zc656 (wGc zc655 (wGc zc654 (wGc zc653 (wGc zc652 (wGc zc651 (wGc zc650 (wGc zc649 (wGc zc648 (wGc zc647 (wGc zc646 (wGc zc170 (wGc zc645 (wGc zc41 (wGc zc40 (wGc zc39 (wGc zc195 (wGc zc644 (wGc zc643 (wGc zc642 (wGc zc641 (wGc zc341 (wGc zc640 (wGc zc639 (wG0))))))))))))))))))))))))))))))))))))))))))))))))))))))))))
theorem t_Y1_perform : GoodIn lw_tbl v_Y1_perform := wGc zc684 (wGa te_Y1_perform (wGa zcX0 (wGa zcX2 (wGa zcX5 (wGa t_Y5_top (wGa t_Y2_arrive (wGa t_Y2_leave (wGa t_Y2_takeChair (wGa t_Y2_replaceMajority (wGa t_Y1_giveFloor (wGa t_Y1_cedeFloor (wGa t_Y1_speak (wGa t_Y1_begin (wGa t_Y1_setSpan (wGa t_Y1_addWords (wGa t_Y1_layDown (wGa t_Y1_takeUp (wGa t_Y1_bringUp (wGa t_Y1_support (wGa t_Y4_castVote (wGa t_Y0_dropTop (wGa t_Y1_putRuling (wGa t_Y7_announce (wGa t_Y1_endSitting (wG0)))))))))))))))))))))))))
set_option maxHeartbeats 4000000 in
set_option maxRecDepth 100000 in
theorem c_Y1_perform (l : Launch) (G : va_G) (K : Nat → ClassId) (ad0 : Nat → Nat) (S0 : Cst) (x0 : Nat) (lc : Nat) (ls : Nat) (a1 : Int32) (a2 : Int32) (a3 : Int32) (a4 : Int32) (a5 : Int32) (sz : Nat) : Met l yX1_perform v_Y1_perform ({ frames := 6, cells := lc - S0.1, slots := ls - S0.2.1, locals := 174 }) (va_Pc [.ref (ad0 x0), .int a1, .int a2, .int a3, .int a4, .int a5] (cSt G K ad0 sz S0 ((S0.1 ≤ lc ∧ S0.2.1 ≤ ls) ∧ iK S0 x0 0 ∧ p_Y1_perform S0 x0 lc ls a1 a2 a3 a4 a5))) (va_Qi (fun (r : Int32) (u : Cst × (Nat → Nat)) => (r, u.1) = f_Y1_perform S0 x0 a1 a2 a3 a4 a5 ∧ eN S0 u.1 ∧ (∀ q, q < S0.1 → u.2 q = ad0 q)) (fun u t => cBt G K u.2 (va_A (wsC K ad0 S0) sz) u.1 t) (va_A (wsC K ad0 S0) sz)) (lc - S0.1) (ls - S0.2.1) (va_A (wsC K ad0 S0) sz) := by
  refine Met.ofW (cc := cX1_perform) (maxL := 7) (ret := (some .int)) (by decide) rfl ?_
  intro p e s m args below meth c s₁ B hml hv
  obtain ⟨rfl, ⟨hsz, hP, hK, hD0, hTE⟩, hp⟩ := hv
  obtain ⟨k_l, hp⟩ := hp
  obtain ⟨k_x0, hp⟩ := hp
  have hx := B.exec
  have hb := B.bytes
  have hr := B.returns
  have hts := atoms_spec (ws := v_Y1_perform) B.pre
  have t_ := t_Y1_perform
  have mw : ∀ w ∈ e_Y1_perform, w ∈ v_Y1_perform := fun w h => List.mem_cons_of_mem _ (List.mem_append_left _ h)
  have hw := fun w (h : w ∈ e_Y1_perform) => hts w (mw w h)
  have iX0 : ∀ w ∈ wsX00, w ∈ v_Y1_perform := fun w h => List.mem_cons_of_mem _ (List.mem_append_right _ (List.mem_append_left _ h))
  have iX2 : ∀ w ∈ wsX20, w ∈ v_Y1_perform := fun w h => List.mem_cons_of_mem _ (List.mem_append_right _ (List.mem_append_right _ (List.mem_append_left _ h)))
  have iX5 : ∀ w ∈ wsX50, w ∈ v_Y1_perform := fun w h => List.mem_cons_of_mem _ (List.mem_append_right _ (List.mem_append_right _ (List.mem_append_right _ (List.mem_append_left _ h))))
  have j_Y5_top : ∀ w ∈ v_Y5_top, w ∈ v_Y1_perform := fun w h => List.mem_cons_of_mem _ (List.mem_append_right _ (List.mem_append_right _ (List.mem_append_right _ (List.mem_append_right _ (List.mem_append_left _ h)))))
  have j_Y2_arrive : ∀ w ∈ v_Y2_arrive, w ∈ v_Y1_perform := fun w h => List.mem_cons_of_mem _ (List.mem_append_right _ (List.mem_append_right _ (List.mem_append_right _ (List.mem_append_right _ (List.mem_append_right _ (List.mem_append_left _ h))))))
  have j_Y2_leave : ∀ w ∈ v_Y2_leave, w ∈ v_Y1_perform := fun w h => List.mem_cons_of_mem _ (List.mem_append_right _ (List.mem_append_right _ (List.mem_append_right _ (List.mem_append_right _ (List.mem_append_right _ (List.mem_append_right _ (List.mem_append_left _ h)))))))
  have j_Y2_takeChair : ∀ w ∈ v_Y2_takeChair, w ∈ v_Y1_perform := fun w h => List.mem_cons_of_mem _ (List.mem_append_right _ (List.mem_append_right _ (List.mem_append_right _ (List.mem_append_right _ (List.mem_append_right _ (List.mem_append_right _ (List.mem_append_right _ (List.mem_append_left _ h))))))))
  have j_Y2_replaceMajority : ∀ w ∈ v_Y2_replaceMajority, w ∈ v_Y1_perform := fun w h => List.mem_cons_of_mem _ (List.mem_append_right _ (List.mem_append_right _ (List.mem_append_right _ (List.mem_append_right _ (List.mem_append_right _ (List.mem_append_right _ (List.mem_append_right _ (List.mem_append_right _ (List.mem_append_left _ h)))))))))
  have j_Y1_giveFloor : ∀ w ∈ v_Y1_giveFloor, w ∈ v_Y1_perform := fun w h => List.mem_cons_of_mem _ (List.mem_append_right _ (List.mem_append_right _ (List.mem_append_right _ (List.mem_append_right _ (List.mem_append_right _ (List.mem_append_right _ (List.mem_append_right _ (List.mem_append_right _ (List.mem_append_right _ (List.mem_append_left _ h))))))))))
  have j_Y1_cedeFloor : ∀ w ∈ v_Y1_cedeFloor, w ∈ v_Y1_perform := fun w h => List.mem_cons_of_mem _ (List.mem_append_right _ (List.mem_append_right _ (List.mem_append_right _ (List.mem_append_right _ (List.mem_append_right _ (List.mem_append_right _ (List.mem_append_right _ (List.mem_append_right _ (List.mem_append_right _ (List.mem_append_right _ (List.mem_append_left _ h)))))))))))
  have j_Y1_speak : ∀ w ∈ v_Y1_speak, w ∈ v_Y1_perform := fun w h => List.mem_cons_of_mem _ (List.mem_append_right _ (List.mem_append_right _ (List.mem_append_right _ (List.mem_append_right _ (List.mem_append_right _ (List.mem_append_right _ (List.mem_append_right _ (List.mem_append_right _ (List.mem_append_right _ (List.mem_append_right _ (List.mem_append_right _ (List.mem_append_left _ h))))))))))))
  have j_Y1_begin : ∀ w ∈ v_Y1_begin, w ∈ v_Y1_perform := fun w h => List.mem_cons_of_mem _ (List.mem_append_right _ (List.mem_append_right _ (List.mem_append_right _ (List.mem_append_right _ (List.mem_append_right _ (List.mem_append_right _ (List.mem_append_right _ (List.mem_append_right _ (List.mem_append_right _ (List.mem_append_right _ (List.mem_append_right _ (List.mem_append_right _ (List.mem_append_left _ h)))))))))))))
  have j_Y1_setSpan : ∀ w ∈ v_Y1_setSpan, w ∈ v_Y1_perform := fun w h => List.mem_cons_of_mem _ (List.mem_append_right _ (List.mem_append_right _ (List.mem_append_right _ (List.mem_append_right _ (List.mem_append_right _ (List.mem_append_right _ (List.mem_append_right _ (List.mem_append_right _ (List.mem_append_right _ (List.mem_append_right _ (List.mem_append_right _ (List.mem_append_right _ (List.mem_append_right _ (List.mem_append_left _ h))))))))))))))
  have j_Y1_addWords : ∀ w ∈ v_Y1_addWords, w ∈ v_Y1_perform := fun w h => List.mem_cons_of_mem _ (List.mem_append_right _ (List.mem_append_right _ (List.mem_append_right _ (List.mem_append_right _ (List.mem_append_right _ (List.mem_append_right _ (List.mem_append_right _ (List.mem_append_right _ (List.mem_append_right _ (List.mem_append_right _ (List.mem_append_right _ (List.mem_append_right _ (List.mem_append_right _ (List.mem_append_right _ (List.mem_append_left _ h)))))))))))))))
  have j_Y1_layDown : ∀ w ∈ v_Y1_layDown, w ∈ v_Y1_perform := fun w h => List.mem_cons_of_mem _ (List.mem_append_right _ (List.mem_append_right _ (List.mem_append_right _ (List.mem_append_right _ (List.mem_append_right _ (List.mem_append_right _ (List.mem_append_right _ (List.mem_append_right _ (List.mem_append_right _ (List.mem_append_right _ (List.mem_append_right _ (List.mem_append_right _ (List.mem_append_right _ (List.mem_append_right _ (List.mem_append_right _ (List.mem_append_left _ h))))))))))))))))
  have j_Y1_takeUp : ∀ w ∈ v_Y1_takeUp, w ∈ v_Y1_perform := fun w h => List.mem_cons_of_mem _ (List.mem_append_right _ (List.mem_append_right _ (List.mem_append_right _ (List.mem_append_right _ (List.mem_append_right _ (List.mem_append_right _ (List.mem_append_right _ (List.mem_append_right _ (List.mem_append_right _ (List.mem_append_right _ (List.mem_append_right _ (List.mem_append_right _ (List.mem_append_right _ (List.mem_append_right _ (List.mem_append_right _ (List.mem_append_right _ (List.mem_append_left _ h)))))))))))))))))
  have j_Y1_bringUp : ∀ w ∈ v_Y1_bringUp, w ∈ v_Y1_perform := fun w h => List.mem_cons_of_mem _ (List.mem_append_right _ (List.mem_append_right _ (List.mem_append_right _ (List.mem_append_right _ (List.mem_append_right _ (List.mem_append_right _ (List.mem_append_right _ (List.mem_append_right _ (List.mem_append_right _ (List.mem_append_right _ (List.mem_append_right _ (List.mem_append_right _ (List.mem_append_right _ (List.mem_append_right _ (List.mem_append_right _ (List.mem_append_right _ (List.mem_append_right _ (List.mem_append_left _ h))))))))))))))))))
  have j_Y1_support : ∀ w ∈ v_Y1_support, w ∈ v_Y1_perform := fun w h => List.mem_cons_of_mem _ (List.mem_append_right _ (List.mem_append_right _ (List.mem_append_right _ (List.mem_append_right _ (List.mem_append_right _ (List.mem_append_right _ (List.mem_append_right _ (List.mem_append_right _ (List.mem_append_right _ (List.mem_append_right _ (List.mem_append_right _ (List.mem_append_right _ (List.mem_append_right _ (List.mem_append_right _ (List.mem_append_right _ (List.mem_append_right _ (List.mem_append_right _ (List.mem_append_right _ (List.mem_append_left _ h)))))))))))))))))))
  have j_Y4_castVote : ∀ w ∈ v_Y4_castVote, w ∈ v_Y1_perform := fun w h => List.mem_cons_of_mem _ (List.mem_append_right _ (List.mem_append_right _ (List.mem_append_right _ (List.mem_append_right _ (List.mem_append_right _ (List.mem_append_right _ (List.mem_append_right _ (List.mem_append_right _ (List.mem_append_right _ (List.mem_append_right _ (List.mem_append_right _ (List.mem_append_right _ (List.mem_append_right _ (List.mem_append_right _ (List.mem_append_right _ (List.mem_append_right _ (List.mem_append_right _ (List.mem_append_right _ (List.mem_append_right _ (List.mem_append_left _ h))))))))))))))))))))
  have j_Y0_dropTop : ∀ w ∈ v_Y0_dropTop, w ∈ v_Y1_perform := fun w h => List.mem_cons_of_mem _ (List.mem_append_right _ (List.mem_append_right _ (List.mem_append_right _ (List.mem_append_right _ (List.mem_append_right _ (List.mem_append_right _ (List.mem_append_right _ (List.mem_append_right _ (List.mem_append_right _ (List.mem_append_right _ (List.mem_append_right _ (List.mem_append_right _ (List.mem_append_right _ (List.mem_append_right _ (List.mem_append_right _ (List.mem_append_right _ (List.mem_append_right _ (List.mem_append_right _ (List.mem_append_right _ (List.mem_append_right _ (List.mem_append_left _ h)))))))))))))))))))))
  have j_Y1_putRuling : ∀ w ∈ v_Y1_putRuling, w ∈ v_Y1_perform := fun w h => List.mem_cons_of_mem _ (List.mem_append_right _ (List.mem_append_right _ (List.mem_append_right _ (List.mem_append_right _ (List.mem_append_right _ (List.mem_append_right _ (List.mem_append_right _ (List.mem_append_right _ (List.mem_append_right _ (List.mem_append_right _ (List.mem_append_right _ (List.mem_append_right _ (List.mem_append_right _ (List.mem_append_right _ (List.mem_append_right _ (List.mem_append_right _ (List.mem_append_right _ (List.mem_append_right _ (List.mem_append_right _ (List.mem_append_right _ (List.mem_append_right _ (List.mem_append_left _ h))))))))))))))))))))))
  have j_Y7_announce : ∀ w ∈ v_Y7_announce, w ∈ v_Y1_perform := fun w h => List.mem_cons_of_mem _ (List.mem_append_right _ (List.mem_append_right _ (List.mem_append_right _ (List.mem_append_right _ (List.mem_append_right _ (List.mem_append_right _ (List.mem_append_right _ (List.mem_append_right _ (List.mem_append_right _ (List.mem_append_right _ (List.mem_append_right _ (List.mem_append_right _ (List.mem_append_right _ (List.mem_append_right _ (List.mem_append_right _ (List.mem_append_right _ (List.mem_append_right _ (List.mem_append_right _ (List.mem_append_right _ (List.mem_append_right _ (List.mem_append_right _ (List.mem_append_right _ (List.mem_append_left _ h)))))))))))))))))))))))
  have j_Y1_endSitting : ∀ w ∈ v_Y1_endSitting, w ∈ v_Y1_perform := fun w h => List.mem_cons_of_mem _ (List.mem_append_right _ (List.mem_append_right _ (List.mem_append_right _ (List.mem_append_right _ (List.mem_append_right _ (List.mem_append_right _ (List.mem_append_right _ (List.mem_append_right _ (List.mem_append_right _ (List.mem_append_right _ (List.mem_append_right _ (List.mem_append_right _ (List.mem_append_right _ (List.mem_append_right _ (List.mem_append_right _ (List.mem_append_right _ (List.mem_append_right _ (List.mem_append_right _ (List.mem_append_right _ (List.mem_append_right _ (List.mem_append_right _ (List.mem_append_right _ (List.mem_append_right _ (List.mem_append_left _ h))))))))))))))))))))))))
  have hown : s.vm.findClass RX1 = some m.cls := findClass_of_methodNamed B.named
  have hlocks := B.notSynchronized
  subst hsz
  have hD := hD0.self (sz := s.heap.size)
  generalize hAe : va_A (wsC K ad0 S0) s.heap.size = A at hD ⊢
  have hA : ∀ q : Nat, s.heap.size ≤ q → A q := fun q h => by rw [← hAe]; exact Or.inr h
  have hS : va_S A s.heap s.heap [] := va_S.rf
  have hl : lv_has (lg_sl ([.ref (ad0 x0), .int a1, .int a2, .int a3, .int a4, .int a5]) ++ List.replicate (7 - (lg_sl ([.ref (ad0 x0), .int a1, .int a2, .int a3, .int a4, .int a5])).length) Slot.unset).toArray 7 [(0, .ref (ad0 x0)), (1, .int a1), (2, .int a2), (3, .int a3), (4, .int a4), (5, .int a5)] := by
    exact lv_entry ([.ref (ad0 x0), .int a1, .int a2, .int a3, .int a4, .int a5]) (n := 7) (Nat.le_of_ble_eq_true rfl)
  rw [lg_entry_eq]
  generalize (lg_sl ([.ref (ad0 x0), .int a1, .int a2, .int a3, .int a4, .int a5]) ++ List.replicate (7 - (lg_sl ([.ref (ad0 x0), .int a1, .int a2, .int a3, .int a4, .int a5])).length) Slot.unset).toArray = ls_ at hl ⊢
  refine wGen (fun Q hQ => ?_)
  obtain ⟨X, hX⟩ : ∃ X, f_Y1_perform S0 x0 a1 a2 a3 a4 a5 = X := ⟨_, rfl⟩
  have B_Y1_perform_120a : ∀ (S : Cst) (ad : Nat → Nat) (x1 : Int32) (x2 : Int32) (x3 : Int32) (x4 : Int32) (x5 : Int32) (x6 : Option Nat) (y0 : Int32) (H : Heap) (locs : List Loc) (ls_ : Array Slot), b_Y1_perform_120a S x0 x1 x2 x3 x4 x5 x6 y0 = X → q_Y1_perform_120a S x0 lc ls x1 x2 x3 x4 x5 x6 y0 → nH S0 ad0 lc ls S ad → va_P G vwCl (wsC K ad S) H → va_D A (wsC K ad S) → va_S A s.heap H locs → lv_has ls_ 7 [(0, .ref (ad x0)), (1, .int x1), (2, .int x2), (3, .int x3), (4, .int x4), (5, .int x5), (6, va_re ad x6)] → W p l e ({ frames := 6, cells := lc - S0.1, slots := ls - S0.2.1, locals := 174 } : Room) s m #[Value.ref (ad0 x0), Value.int a1, Value.int a2, Value.int a3, Value.int a4, Value.int a5] below meth c H locs (S.1 - S0.1) (S.2.1 - S0.2.1) Q (F0 m 120 ls_ [.int y0]) := by
    intro S ad x1 x2 x3 x4 x5 x6 y0 H locs ls_ hE hp hZ hP hD hS hl
    unfold b_Y1_perform_120a at hE
    unfold q_Y1_perform_120a at hp
    refine W.widen (k := lc - S0.1) (n := ls - S0.2.1) (show S.1 - S0.1 ≤ lc - S0.1 from Nat.sub_le_sub_right hZ.2.2.1 _) (show S.2.1 - S0.2.1 ≤ ls - S0.2.1 from Nat.sub_le_sub_right hZ.2.2.2 _) ?_
    subst hQ
    exact W.iret (v := y0) hx hb hr (fun t ht hW => ⟨⟨y0, (S, ad), rfl, ⟨hE.trans hX.symm, hZ.1, hZ.2.1⟩, by rw [ht]; exact hP, hD⟩, hS.F ht⟩) hS.2.2 dX1_perform_120
  have B_Y1_perform_129a : ∀ (S : Cst) (ad : Nat → Nat) (x1 : Int32) (x2 : Int32) (x3 : Int32) (x4 : Int32) (x5 : Int32) (x6 : Option Nat) (y0 : Int32) (H : Heap) (locs : List Loc) (ls_ : Array Slot), b_Y1_perform_129a S x0 x1 x2 x3 x4 x5 x6 y0 = X → q_Y1_perform_129a S x0 lc ls x1 x2 x3 x4 x5 x6 y0 → nH S0 ad0 lc ls S ad → va_P G vwCl (wsC K ad S) H → va_D A (wsC K ad S) → va_S A s.heap H locs → lv_has ls_ 7 [(0, .ref (ad x0)), (1, .int x1), (2, .int x2), (3, .int x3), (4, .int x4), (5, .int x5), (6, va_re ad x6)] → W p l e ({ frames := 6, cells := lc - S0.1, slots := ls - S0.2.1, locals := 174 } : Room) s m #[Value.ref (ad0 x0), Value.int a1, Value.int a2, Value.int a3, Value.int a4, Value.int a5] below meth c H locs (S.1 - S0.1) (S.2.1 - S0.2.1) Q (F0 m 129 ls_ [.int y0]) := by
    intro S ad x1 x2 x3 x4 x5 x6 y0 H locs ls_ hE hp hZ hP hD hS hl
    unfold b_Y1_perform_129a at hE
    unfold q_Y1_perform_129a at hp
    refine W.widen (k := lc - S0.1) (n := ls - S0.2.1) (show S.1 - S0.1 ≤ lc - S0.1 from Nat.sub_le_sub_right hZ.2.2.1 _) (show S.2.1 - S0.2.1 ≤ ls - S0.2.1 from Nat.sub_le_sub_right hZ.2.2.2 _) ?_
    subst hQ
    exact W.iret (v := y0) hx hb hr (fun t ht hW => ⟨⟨y0, (S, ad), rfl, ⟨hE.trans hX.symm, hZ.1, hZ.2.1⟩, by rw [ht]; exact hP, hD⟩, hS.F ht⟩) hS.2.2 dX1_perform_129
  have B_Y1_perform_148a : ∀ (S : Cst) (ad : Nat → Nat) (x1 : Int32) (x2 : Int32) (x3 : Int32) (x4 : Int32) (x5 : Int32) (x6 : Option Nat) (y0 : Int32) (H : Heap) (locs : List Loc) (ls_ : Array Slot), b_Y1_perform_148a S x0 x1 x2 x3 x4 x5 x6 y0 = X → q_Y1_perform_148a S x0 lc ls x1 x2 x3 x4 x5 x6 y0 → nH S0 ad0 lc ls S ad → va_P G vwCl (wsC K ad S) H → va_D A (wsC K ad S) → va_S A s.heap H locs → lv_has ls_ 7 [(0, .ref (ad x0)), (1, .int x1), (2, .int x2), (3, .int x3), (4, .int x4), (5, .int x5), (6, va_re ad x6)] → W p l e ({ frames := 6, cells := lc - S0.1, slots := ls - S0.2.1, locals := 174 } : Room) s m #[Value.ref (ad0 x0), Value.int a1, Value.int a2, Value.int a3, Value.int a4, Value.int a5] below meth c H locs (S.1 - S0.1) (S.2.1 - S0.2.1) Q (F0 m 148 ls_ [.int y0]) := by
    intro S ad x1 x2 x3 x4 x5 x6 y0 H locs ls_ hE hp hZ hP hD hS hl
    unfold b_Y1_perform_148a at hE
    unfold q_Y1_perform_148a at hp
    refine W.widen (k := lc - S0.1) (n := ls - S0.2.1) (show S.1 - S0.1 ≤ lc - S0.1 from Nat.sub_le_sub_right hZ.2.2.1 _) (show S.2.1 - S0.2.1 ≤ ls - S0.2.1 from Nat.sub_le_sub_right hZ.2.2.2 _) ?_
    subst hQ
    exact W.iret (v := y0) hx hb hr (fun t ht hW => ⟨⟨y0, (S, ad), rfl, ⟨hE.trans hX.symm, hZ.1, hZ.2.1⟩, by rw [ht]; exact hP, hD⟩, hS.F ht⟩) hS.2.2 dX1_perform_148
  have B_Y1_perform_158a : ∀ (S : Cst) (ad : Nat → Nat) (x1 : Int32) (x2 : Int32) (x3 : Int32) (x4 : Int32) (x5 : Int32) (x6 : Option Nat) (y0 : Int32) (H : Heap) (locs : List Loc) (ls_ : Array Slot), b_Y1_perform_158a S x0 x1 x2 x3 x4 x5 x6 y0 = X → q_Y1_perform_158a S x0 lc ls x1 x2 x3 x4 x5 x6 y0 → nH S0 ad0 lc ls S ad → va_P G vwCl (wsC K ad S) H → va_D A (wsC K ad S) → va_S A s.heap H locs → lv_has ls_ 7 [(0, .ref (ad x0)), (1, .int x1), (2, .int x2), (3, .int x3), (4, .int x4), (5, .int x5), (6, va_re ad x6)] → W p l e ({ frames := 6, cells := lc - S0.1, slots := ls - S0.2.1, locals := 174 } : Room) s m #[Value.ref (ad0 x0), Value.int a1, Value.int a2, Value.int a3, Value.int a4, Value.int a5] below meth c H locs (S.1 - S0.1) (S.2.1 - S0.2.1) Q (F0 m 158 ls_ [.int y0]) := by
    intro S ad x1 x2 x3 x4 x5 x6 y0 H locs ls_ hE hp hZ hP hD hS hl
    unfold b_Y1_perform_158a at hE
    unfold q_Y1_perform_158a at hp
    refine W.widen (k := lc - S0.1) (n := ls - S0.2.1) (show S.1 - S0.1 ≤ lc - S0.1 from Nat.sub_le_sub_right hZ.2.2.1 _) (show S.2.1 - S0.2.1 ≤ ls - S0.2.1 from Nat.sub_le_sub_right hZ.2.2.2 _) ?_
    subst hQ
    exact W.iret (v := y0) hx hb hr (fun t ht hW => ⟨⟨y0, (S, ad), rfl, ⟨hE.trans hX.symm, hZ.1, hZ.2.1⟩, by rw [ht]; exact hP, hD⟩, hS.F ht⟩) hS.2.2 dX1_perform_158
  have B_Y1_perform_179a : ∀ (S : Cst) (ad : Nat → Nat) (x1 : Int32) (x2 : Int32) (x3 : Int32) (x4 : Int32) (x5 : Int32) (x6 : Option Nat) (y0 : Int32) (H : Heap) (locs : List Loc) (ls_ : Array Slot), b_Y1_perform_179a S x0 x1 x2 x3 x4 x5 x6 y0 = X → q_Y1_perform_179a S x0 lc ls x1 x2 x3 x4 x5 x6 y0 → nH S0 ad0 lc ls S ad → va_P G vwCl (wsC K ad S) H → va_D A (wsC K ad S) → va_S A s.heap H locs → lv_has ls_ 7 [(0, .ref (ad x0)), (1, .int x1), (2, .int x2), (3, .int x3), (4, .int x4), (5, .int x5), (6, va_re ad x6)] → W p l e ({ frames := 6, cells := lc - S0.1, slots := ls - S0.2.1, locals := 174 } : Room) s m #[Value.ref (ad0 x0), Value.int a1, Value.int a2, Value.int a3, Value.int a4, Value.int a5] below meth c H locs (S.1 - S0.1) (S.2.1 - S0.2.1) Q (F0 m 179 ls_ [.int y0]) := by
    intro S ad x1 x2 x3 x4 x5 x6 y0 H locs ls_ hE hp hZ hP hD hS hl
    unfold b_Y1_perform_179a at hE
    unfold q_Y1_perform_179a at hp
    refine W.widen (k := lc - S0.1) (n := ls - S0.2.1) (show S.1 - S0.1 ≤ lc - S0.1 from Nat.sub_le_sub_right hZ.2.2.1 _) (show S.2.1 - S0.2.1 ≤ ls - S0.2.1 from Nat.sub_le_sub_right hZ.2.2.2 _) ?_
    subst hQ
    exact W.iret (v := y0) hx hb hr (fun t ht hW => ⟨⟨y0, (S, ad), rfl, ⟨hE.trans hX.symm, hZ.1, hZ.2.1⟩, by rw [ht]; exact hP, hD⟩, hS.F ht⟩) hS.2.2 dX1_perform_179
  have B_Y1_perform_187a : ∀ (S : Cst) (ad : Nat → Nat) (x1 : Int32) (x2 : Int32) (x3 : Int32) (x4 : Int32) (x5 : Int32) (x6 : Option Nat) (y0 : Int32) (H : Heap) (locs : List Loc) (ls_ : Array Slot), b_Y1_perform_187a S x0 x1 x2 x3 x4 x5 x6 y0 = X → q_Y1_perform_187a S x0 lc ls x1 x2 x3 x4 x5 x6 y0 → nH S0 ad0 lc ls S ad → va_P G vwCl (wsC K ad S) H → va_D A (wsC K ad S) → va_S A s.heap H locs → lv_has ls_ 7 [(0, .ref (ad x0)), (1, .int x1), (2, .int x2), (3, .int x3), (4, .int x4), (5, .int x5), (6, va_re ad x6)] → W p l e ({ frames := 6, cells := lc - S0.1, slots := ls - S0.2.1, locals := 174 } : Room) s m #[Value.ref (ad0 x0), Value.int a1, Value.int a2, Value.int a3, Value.int a4, Value.int a5] below meth c H locs (S.1 - S0.1) (S.2.1 - S0.2.1) Q (F0 m 187 ls_ [.int y0]) := by
    intro S ad x1 x2 x3 x4 x5 x6 y0 H locs ls_ hE hp hZ hP hD hS hl
    unfold b_Y1_perform_187a at hE
    unfold q_Y1_perform_187a at hp
    refine W.widen (k := lc - S0.1) (n := ls - S0.2.1) (show S.1 - S0.1 ≤ lc - S0.1 from Nat.sub_le_sub_right hZ.2.2.1 _) (show S.2.1 - S0.2.1 ≤ ls - S0.2.1 from Nat.sub_le_sub_right hZ.2.2.2 _) ?_
    subst hQ
    exact W.iret (v := y0) hx hb hr (fun t ht hW => ⟨⟨y0, (S, ad), rfl, ⟨hE.trans hX.symm, hZ.1, hZ.2.1⟩, by rw [ht]; exact hP, hD⟩, hS.F ht⟩) hS.2.2 dX1_perform_187
  have B_Y1_perform_193a : ∀ (S : Cst) (ad : Nat → Nat) (x1 : Int32) (x2 : Int32) (x3 : Int32) (x4 : Int32) (x5 : Int32) (x6 : Option Nat) (y0 : Int32) (H : Heap) (locs : List Loc) (ls_ : Array Slot), b_Y1_perform_193a S x0 x1 x2 x3 x4 x5 x6 y0 = X → q_Y1_perform_193a S x0 lc ls x1 x2 x3 x4 x5 x6 y0 → nH S0 ad0 lc ls S ad → va_P G vwCl (wsC K ad S) H → va_D A (wsC K ad S) → va_S A s.heap H locs → lv_has ls_ 7 [(0, .ref (ad x0)), (1, .int x1), (2, .int x2), (3, .int x3), (4, .int x4), (5, .int x5), (6, va_re ad x6)] → W p l e ({ frames := 6, cells := lc - S0.1, slots := ls - S0.2.1, locals := 174 } : Room) s m #[Value.ref (ad0 x0), Value.int a1, Value.int a2, Value.int a3, Value.int a4, Value.int a5] below meth c H locs (S.1 - S0.1) (S.2.1 - S0.2.1) Q (F0 m 193 ls_ [.int y0]) := by
    intro S ad x1 x2 x3 x4 x5 x6 y0 H locs ls_ hE hp hZ hP hD hS hl
    unfold b_Y1_perform_193a at hE
    unfold q_Y1_perform_193a at hp
    refine W.widen (k := lc - S0.1) (n := ls - S0.2.1) (show S.1 - S0.1 ≤ lc - S0.1 from Nat.sub_le_sub_right hZ.2.2.1 _) (show S.2.1 - S0.2.1 ≤ ls - S0.2.1 from Nat.sub_le_sub_right hZ.2.2.2 _) ?_
    subst hQ
    exact W.iret (v := y0) hx hb hr (fun t ht hW => ⟨⟨y0, (S, ad), rfl, ⟨hE.trans hX.symm, hZ.1, hZ.2.1⟩, by rw [ht]; exact hP, hD⟩, hS.F ht⟩) hS.2.2 dX1_perform_193
  have B_Y1_perform_199a : ∀ (S : Cst) (ad : Nat → Nat) (x1 : Int32) (x2 : Int32) (x3 : Int32) (x4 : Int32) (x5 : Int32) (x6 : Option Nat) (y0 : Int32) (H : Heap) (locs : List Loc) (ls_ : Array Slot), b_Y1_perform_199a S x0 x1 x2 x3 x4 x5 x6 y0 = X → q_Y1_perform_199a S x0 lc ls x1 x2 x3 x4 x5 x6 y0 → nH S0 ad0 lc ls S ad → va_P G vwCl (wsC K ad S) H → va_D A (wsC K ad S) → va_S A s.heap H locs → lv_has ls_ 7 [(0, .ref (ad x0)), (1, .int x1), (2, .int x2), (3, .int x3), (4, .int x4), (5, .int x5), (6, va_re ad x6)] → W p l e ({ frames := 6, cells := lc - S0.1, slots := ls - S0.2.1, locals := 174 } : Room) s m #[Value.ref (ad0 x0), Value.int a1, Value.int a2, Value.int a3, Value.int a4, Value.int a5] below meth c H locs (S.1 - S0.1) (S.2.1 - S0.2.1) Q (F0 m 199 ls_ [.int y0]) := by
    intro S ad x1 x2 x3 x4 x5 x6 y0 H locs ls_ hE hp hZ hP hD hS hl
    unfold b_Y1_perform_199a at hE
    unfold q_Y1_perform_199a at hp
    refine W.widen (k := lc - S0.1) (n := ls - S0.2.1) (show S.1 - S0.1 ≤ lc - S0.1 from Nat.sub_le_sub_right hZ.2.2.1 _) (show S.2.1 - S0.2.1 ≤ ls - S0.2.1 from Nat.sub_le_sub_right hZ.2.2.2 _) ?_
    subst hQ
    exact W.iret (v := y0) hx hb hr (fun t ht hW => ⟨⟨y0, (S, ad), rfl, ⟨hE.trans hX.symm, hZ.1, hZ.2.1⟩, by rw [ht]; exact hP, hD⟩, hS.F ht⟩) hS.2.2 dX1_perform_199
  have B_Y1_perform_206a : ∀ (S : Cst) (ad : Nat → Nat) (x1 : Int32) (x2 : Int32) (x3 : Int32) (x4 : Int32) (x5 : Int32) (x6 : Option Nat) (y0 : Int32) (H : Heap) (locs : List Loc) (ls_ : Array Slot), b_Y1_perform_206a S x0 x1 x2 x3 x4 x5 x6 y0 = X → q_Y1_perform_206a S x0 lc ls x1 x2 x3 x4 x5 x6 y0 → nH S0 ad0 lc ls S ad → va_P G vwCl (wsC K ad S) H → va_D A (wsC K ad S) → va_S A s.heap H locs → lv_has ls_ 7 [(0, .ref (ad x0)), (1, .int x1), (2, .int x2), (3, .int x3), (4, .int x4), (5, .int x5), (6, va_re ad x6)] → W p l e ({ frames := 6, cells := lc - S0.1, slots := ls - S0.2.1, locals := 174 } : Room) s m #[Value.ref (ad0 x0), Value.int a1, Value.int a2, Value.int a3, Value.int a4, Value.int a5] below meth c H locs (S.1 - S0.1) (S.2.1 - S0.2.1) Q (F0 m 206 ls_ [.int y0]) := by
    intro S ad x1 x2 x3 x4 x5 x6 y0 H locs ls_ hE hp hZ hP hD hS hl
    unfold b_Y1_perform_206a at hE
    unfold q_Y1_perform_206a at hp
    refine W.widen (k := lc - S0.1) (n := ls - S0.2.1) (show S.1 - S0.1 ≤ lc - S0.1 from Nat.sub_le_sub_right hZ.2.2.1 _) (show S.2.1 - S0.2.1 ≤ ls - S0.2.1 from Nat.sub_le_sub_right hZ.2.2.2 _) ?_
    subst hQ
    exact W.iret (v := y0) hx hb hr (fun t ht hW => ⟨⟨y0, (S, ad), rfl, ⟨hE.trans hX.symm, hZ.1, hZ.2.1⟩, by rw [ht]; exact hP, hD⟩, hS.F ht⟩) hS.2.2 dX1_perform_206
  have B_Y1_perform_217a : ∀ (S : Cst) (ad : Nat → Nat) (x1 : Int32) (x2 : Int32) (x3 : Int32) (x4 : Int32) (x5 : Int32) (x6 : Option Nat) (y0 : Int32) (H : Heap) (locs : List Loc) (ls_ : Array Slot), b_Y1_perform_217a S x0 x1 x2 x3 x4 x5 x6 y0 = X → q_Y1_perform_217a S x0 lc ls x1 x2 x3 x4 x5 x6 y0 → nH S0 ad0 lc ls S ad → va_P G vwCl (wsC K ad S) H → va_D A (wsC K ad S) → va_S A s.heap H locs → lv_has ls_ 7 [(0, .ref (ad x0)), (1, .int x1), (2, .int x2), (3, .int x3), (4, .int x4), (5, .int x5), (6, va_re ad x6)] → W p l e ({ frames := 6, cells := lc - S0.1, slots := ls - S0.2.1, locals := 174 } : Room) s m #[Value.ref (ad0 x0), Value.int a1, Value.int a2, Value.int a3, Value.int a4, Value.int a5] below meth c H locs (S.1 - S0.1) (S.2.1 - S0.2.1) Q (F0 m 217 ls_ [.int y0]) := by
    intro S ad x1 x2 x3 x4 x5 x6 y0 H locs ls_ hE hp hZ hP hD hS hl
    unfold b_Y1_perform_217a at hE
    unfold q_Y1_perform_217a at hp
    refine W.widen (k := lc - S0.1) (n := ls - S0.2.1) (show S.1 - S0.1 ≤ lc - S0.1 from Nat.sub_le_sub_right hZ.2.2.1 _) (show S.2.1 - S0.2.1 ≤ ls - S0.2.1 from Nat.sub_le_sub_right hZ.2.2.2 _) ?_
    subst hQ
    exact W.iret (v := y0) hx hb hr (fun t ht hW => ⟨⟨y0, (S, ad), rfl, ⟨hE.trans hX.symm, hZ.1, hZ.2.1⟩, by rw [ht]; exact hP, hD⟩, hS.F ht⟩) hS.2.2 dX1_perform_217
  have B_Y1_perform_223a : ∀ (S : Cst) (ad : Nat → Nat) (x1 : Int32) (x2 : Int32) (x3 : Int32) (x4 : Int32) (x5 : Int32) (x6 : Option Nat) (y0 : Int32) (H : Heap) (locs : List Loc) (ls_ : Array Slot), b_Y1_perform_223a S x0 x1 x2 x3 x4 x5 x6 y0 = X → q_Y1_perform_223a S x0 lc ls x1 x2 x3 x4 x5 x6 y0 → nH S0 ad0 lc ls S ad → va_P G vwCl (wsC K ad S) H → va_D A (wsC K ad S) → va_S A s.heap H locs → lv_has ls_ 7 [(0, .ref (ad x0)), (1, .int x1), (2, .int x2), (3, .int x3), (4, .int x4), (5, .int x5), (6, va_re ad x6)] → W p l e ({ frames := 6, cells := lc - S0.1, slots := ls - S0.2.1, locals := 174 } : Room) s m #[Value.ref (ad0 x0), Value.int a1, Value.int a2, Value.int a3, Value.int a4, Value.int a5] below meth c H locs (S.1 - S0.1) (S.2.1 - S0.2.1) Q (F0 m 223 ls_ [.int y0]) := by
    intro S ad x1 x2 x3 x4 x5 x6 y0 H locs ls_ hE hp hZ hP hD hS hl
    unfold b_Y1_perform_223a at hE
    unfold q_Y1_perform_223a at hp
    refine W.widen (k := lc - S0.1) (n := ls - S0.2.1) (show S.1 - S0.1 ≤ lc - S0.1 from Nat.sub_le_sub_right hZ.2.2.1 _) (show S.2.1 - S0.2.1 ≤ ls - S0.2.1 from Nat.sub_le_sub_right hZ.2.2.2 _) ?_
    subst hQ
    exact W.iret (v := y0) hx hb hr (fun t ht hW => ⟨⟨y0, (S, ad), rfl, ⟨hE.trans hX.symm, hZ.1, hZ.2.1⟩, by rw [ht]; exact hP, hD⟩, hS.F ht⟩) hS.2.2 dX1_perform_223
  have B_Y1_perform_229a : ∀ (S : Cst) (ad : Nat → Nat) (x1 : Int32) (x2 : Int32) (x3 : Int32) (x4 : Int32) (x5 : Int32) (x6 : Option Nat) (y0 : Int32) (H : Heap) (locs : List Loc) (ls_ : Array Slot), b_Y1_perform_229a S x0 x1 x2 x3 x4 x5 x6 y0 = X → q_Y1_perform_229a S x0 lc ls x1 x2 x3 x4 x5 x6 y0 → nH S0 ad0 lc ls S ad → va_P G vwCl (wsC K ad S) H → va_D A (wsC K ad S) → va_S A s.heap H locs → lv_has ls_ 7 [(0, .ref (ad x0)), (1, .int x1), (2, .int x2), (3, .int x3), (4, .int x4), (5, .int x5), (6, va_re ad x6)] → W p l e ({ frames := 6, cells := lc - S0.1, slots := ls - S0.2.1, locals := 174 } : Room) s m #[Value.ref (ad0 x0), Value.int a1, Value.int a2, Value.int a3, Value.int a4, Value.int a5] below meth c H locs (S.1 - S0.1) (S.2.1 - S0.2.1) Q (F0 m 229 ls_ [.int y0]) := by
    intro S ad x1 x2 x3 x4 x5 x6 y0 H locs ls_ hE hp hZ hP hD hS hl
    unfold b_Y1_perform_229a at hE
    unfold q_Y1_perform_229a at hp
    refine W.widen (k := lc - S0.1) (n := ls - S0.2.1) (show S.1 - S0.1 ≤ lc - S0.1 from Nat.sub_le_sub_right hZ.2.2.1 _) (show S.2.1 - S0.2.1 ≤ ls - S0.2.1 from Nat.sub_le_sub_right hZ.2.2.2 _) ?_
    subst hQ
    exact W.iret (v := y0) hx hb hr (fun t ht hW => ⟨⟨y0, (S, ad), rfl, ⟨hE.trans hX.symm, hZ.1, hZ.2.1⟩, by rw [ht]; exact hP, hD⟩, hS.F ht⟩) hS.2.2 dX1_perform_229
  have B_Y1_perform_235a : ∀ (S : Cst) (ad : Nat → Nat) (x1 : Int32) (x2 : Int32) (x3 : Int32) (x4 : Int32) (x5 : Int32) (x6 : Option Nat) (y0 : Int32) (H : Heap) (locs : List Loc) (ls_ : Array Slot), b_Y1_perform_235a S x0 x1 x2 x3 x4 x5 x6 y0 = X → q_Y1_perform_235a S x0 lc ls x1 x2 x3 x4 x5 x6 y0 → nH S0 ad0 lc ls S ad → va_P G vwCl (wsC K ad S) H → va_D A (wsC K ad S) → va_S A s.heap H locs → lv_has ls_ 7 [(0, .ref (ad x0)), (1, .int x1), (2, .int x2), (3, .int x3), (4, .int x4), (5, .int x5), (6, va_re ad x6)] → W p l e ({ frames := 6, cells := lc - S0.1, slots := ls - S0.2.1, locals := 174 } : Room) s m #[Value.ref (ad0 x0), Value.int a1, Value.int a2, Value.int a3, Value.int a4, Value.int a5] below meth c H locs (S.1 - S0.1) (S.2.1 - S0.2.1) Q (F0 m 235 ls_ [.int y0]) := by
    intro S ad x1 x2 x3 x4 x5 x6 y0 H locs ls_ hE hp hZ hP hD hS hl
    unfold b_Y1_perform_235a at hE
    unfold q_Y1_perform_235a at hp
    refine W.widen (k := lc - S0.1) (n := ls - S0.2.1) (show S.1 - S0.1 ≤ lc - S0.1 from Nat.sub_le_sub_right hZ.2.2.1 _) (show S.2.1 - S0.2.1 ≤ ls - S0.2.1 from Nat.sub_le_sub_right hZ.2.2.2 _) ?_
    subst hQ
    exact W.iret (v := y0) hx hb hr (fun t ht hW => ⟨⟨y0, (S, ad), rfl, ⟨hE.trans hX.symm, hZ.1, hZ.2.1⟩, by rw [ht]; exact hP, hD⟩, hS.F ht⟩) hS.2.2 dX1_perform_235
  have B_Y1_perform_242a : ∀ (S : Cst) (ad : Nat → Nat) (x1 : Int32) (x2 : Int32) (x3 : Int32) (x4 : Int32) (x5 : Int32) (x6 : Option Nat) (y0 : Int32) (H : Heap) (locs : List Loc) (ls_ : Array Slot), b_Y1_perform_242a S x0 x1 x2 x3 x4 x5 x6 y0 = X → q_Y1_perform_242a S x0 lc ls x1 x2 x3 x4 x5 x6 y0 → nH S0 ad0 lc ls S ad → va_P G vwCl (wsC K ad S) H → va_D A (wsC K ad S) → va_S A s.heap H locs → lv_has ls_ 7 [(0, .ref (ad x0)), (1, .int x1), (2, .int x2), (3, .int x3), (4, .int x4), (5, .int x5), (6, va_re ad x6)] → W p l e ({ frames := 6, cells := lc - S0.1, slots := ls - S0.2.1, locals := 174 } : Room) s m #[Value.ref (ad0 x0), Value.int a1, Value.int a2, Value.int a3, Value.int a4, Value.int a5] below meth c H locs (S.1 - S0.1) (S.2.1 - S0.2.1) Q (F0 m 242 ls_ [.int y0]) := by
    intro S ad x1 x2 x3 x4 x5 x6 y0 H locs ls_ hE hp hZ hP hD hS hl
    unfold b_Y1_perform_242a at hE
    unfold q_Y1_perform_242a at hp
    refine W.widen (k := lc - S0.1) (n := ls - S0.2.1) (show S.1 - S0.1 ≤ lc - S0.1 from Nat.sub_le_sub_right hZ.2.2.1 _) (show S.2.1 - S0.2.1 ≤ ls - S0.2.1 from Nat.sub_le_sub_right hZ.2.2.2 _) ?_
    subst hQ
    exact W.iret (v := y0) hx hb hr (fun t ht hW => ⟨⟨y0, (S, ad), rfl, ⟨hE.trans hX.symm, hZ.1, hZ.2.1⟩, by rw [ht]; exact hP, hD⟩, hS.F ht⟩) hS.2.2 dX1_perform_242
  have B_Y1_perform_236 : ∀ (S : Cst) (ad : Nat → Nat) (x1 : Int32) (x2 : Int32) (x3 : Int32) (x4 : Int32) (x5 : Int32) (x6 : Option Nat) (H : Heap) (locs : List Loc) (ls_ : Array Slot), b_Y1_perform_236 S x0 x1 x2 x3 x4 x5 x6 = X → q_Y1_perform_236 S x0 lc ls x1 x2 x3 x4 x5 x6 → nH S0 ad0 lc ls S ad → va_P G vwCl (wsC K ad S) H → va_D A (wsC K ad S) → va_S A s.heap H locs → lv_has ls_ 7 [(0, .ref (ad x0)), (1, .int x1), (2, .int x2), (3, .int x3), (4, .int x4), (5, .int x5), (6, va_re ad x6)] → W p l e ({ frames := 6, cells := lc - S0.1, slots := ls - S0.2.1, locals := 174 } : Room) s m #[Value.ref (ad0 x0), Value.int a1, Value.int a2, Value.int a3, Value.int a4, Value.int a5] below meth c H locs (S.1 - S0.1) (S.2.1 - S0.2.1) Q (F0 m 236 ls_ []) := by
    intro S ad x1 x2 x3 x4 x5 x6 H locs ls_ hE hp hZ hP hD hS hl
    unfold b_Y1_perform_236 at hE
    unfold q_Y1_perform_236 at hp
    refine cAload (ad := ad) (r := x6) hx hb dX1_perform_236 (lv_at hl 6 rfl) ?_
    refine lv_iload_n hx hb dX1_perform_238 rfl (lv_at hl 2 rfl) ?_
    obtain ⟨hy54, hp⟩ := hp
    refine cGoi (va_runS (As := [va_re ad x6, .int x2]) (rest := []) ⟨hx, hb, hml, hown, hts⟩ (c_Y1_support l G K ad S x6 x2 _) (va_cwS 2 hts (wGS t_ (mw (.methodLink RX1 83 yX1_support) (List.mem_of_getElem? (i := 40) rfl)) (mw (.static yX1_support) (List.mem_of_getElem? (i := 41) rfl)) (mw (.initialized RX1) (List.mem_of_getElem? (i := 23) rfl)) j_Y1_support) rfl rfl rfl (by decide +kernel) ⟨Nat.le_of_ble_eq_true rfl, Nat.le_of_ble_eq_true rfl⟩) (cPS hK hTE hP hD hy54) rfl rfl hl.1 rfl (lv_room (Nat.le_of_ble_eq_true rfl)) dX1_perform_239 ⟨(show S.1 - S0.1 ≤ lc - S0.1 from Nat.sub_le_sub_right hZ.2.2.1 _), (show S.2.1 - S0.2.1 ≤ ls - S0.2.1 from Nat.sub_le_sub_right hZ.2.2.2 _)⟩) hP hD hS hA (fun r56 u55 H locs hv hP hD hS => ?_)
    obtain ⟨hv, hz⟩ := hv
    have hZ := hZ.k hz
    refine cCells (cells' := u55.1 - S0.1) (slots' := u55.2.1 - S0.2.1) (by have e : S.1 = u55.1 := hz.1.1; show S.1 - S0.1 + 0 = _; omega) (by have e : S.2.1 = u55.2.1 := hz.1.2; show S.2.1 - S0.2.1 + 0 = _; omega) ?_
    rw [← hv] at hE hp
    dsimp only at hE hp
    exact B_Y1_perform_242a u55 ad x1 x2 x3 x4 x5 x6 r56 _ _ _ hE hp hZ hP hD hS (lv_sub hl [0, 1, 2, 3, 4, 5, 6] rfl)
  have B_Y1_perform_259 : ∀ (S : Cst) (ad : Nat → Nat) (x1 : Int32) (x2 : Int32) (x3 : Int32) (x4 : Int32) (x5 : Int32) (x6 : Option Nat) (y0 : Int32) (H : Heap) (locs : List Loc) (ls_ : Array Slot), b_Y1_perform_259 S x0 x1 x2 x3 x4 x5 x6 y0 = X → q_Y1_perform_259 S x0 lc ls x1 x2 x3 x4 x5 x6 y0 → nH S0 ad0 lc ls S ad → va_P G vwCl (wsC K ad S) H → va_D A (wsC K ad S) → va_S A s.heap H locs → lv_has ls_ 7 [(0, .ref (ad x0)), (1, .int x1), (2, .int x2), (3, .int x3), (4, .int x4), (5, .int x5), (6, va_re ad x6)] → W p l e ({ frames := 6, cells := lc - S0.1, slots := ls - S0.2.1, locals := 174 } : Room) s m #[Value.ref (ad0 x0), Value.int a1, Value.int a2, Value.int a3, Value.int a4, Value.int a5] below meth c H locs (S.1 - S0.1) (S.2.1 - S0.2.1) Q (F0 m 259 ls_ [.int y0]) := by
    intro S ad x1 x2 x3 x4 x5 x6 y0 H locs ls_ hE hp hZ hP hD hS hl
    unfold b_Y1_perform_259 at hE
    unfold q_Y1_perform_259 at hp
    refine W.widen (k := lc - S0.1) (n := ls - S0.2.1) (show S.1 - S0.1 ≤ lc - S0.1 from Nat.sub_le_sub_right hZ.2.2.1 _) (show S.2.1 - S0.2.1 ≤ ls - S0.2.1 from Nat.sub_le_sub_right hZ.2.2.2 _) ?_
    subst hQ
    exact W.iret (v := y0) hx hb hr (fun t ht hW => ⟨⟨y0, (S, ad), rfl, ⟨hE.trans hX.symm, hZ.1, hZ.2.1⟩, by rw [ht]; exact hP, hD⟩, hS.F ht⟩) hS.2.2 dX1_perform_259
  have B_Y1_perform_268a : ∀ (S : Cst) (ad : Nat → Nat) (x1 : Int32) (x2 : Int32) (x3 : Int32) (x4 : Int32) (x5 : Int32) (x6 : Option Nat) (H : Heap) (locs : List Loc) (ls_ : Array Slot), b_Y1_perform_268a S x0 x1 x2 x3 x4 x5 x6 = X → q_Y1_perform_268a S x0 lc ls x1 x2 x3 x4 x5 x6 → nH S0 ad0 lc ls S ad → va_P G vwCl (wsC K ad S) H → va_D A (wsC K ad S) → va_S A s.heap H locs → lv_has ls_ 7 [(0, .ref (ad x0)), (1, .int x1), (2, .int x2), (3, .int x3), (4, .int x4), (5, .int x5), (6, va_re ad x6)] → W p l e ({ frames := 6, cells := lc - S0.1, slots := ls - S0.2.1, locals := 174 } : Room) s m #[Value.ref (ad0 x0), Value.int a1, Value.int a2, Value.int a3, Value.int a4, Value.int a5] below meth c H locs (S.1 - S0.1) (S.2.1 - S0.2.1) Q (F0 m 268 ls_ []) := by
    intro S ad x1 x2 x3 x4 x5 x6 H locs ls_ hE hp hZ hP hD hS hl
    unfold b_Y1_perform_268a at hE
    unfold q_Y1_perform_268a at hp
    refine lv_aload_n hx hb dX1_perform_268 rfl (lv_at hl 0 rfl) ?_
    refine va_get (D := G) (ci := 0) (v := va_re ad (grC S x0 1)) (C := RX0) (T := TX0) (N := 11) hx hb hts iX0 hown hK hP x0 (at_0 (k_x0.n hZ.1)) rfl 1 (by decide) (hw (.fieldLink RX1 9 "MotionFloor$Assembly" "pending" "LMotionFloor$Pile;") (List.mem_of_getElem? (i := 0) rfl)) (fun _ h9 => h9) rfl dX1_perform_269 ?_
    obtain ⟨hy66, hp⟩ := hp
    refine cTop (r := (grC S x0 1)) hy66.1 ?_
    refine va_get (D := G) (ci := 4) (v := .int (giC S ((grC S x0 1).getD 0) 1)) (C := RX5) (T := TX5) (N := 2) hx hb hts iX5 hown hK hP ((grC S x0 1).getD 0) (at_4 hy66.2) rfl 1 (by decide) (hw (.fieldLink RX1 96 "MotionFloor$Pile" "size" "I") (List.mem_of_getElem? (i := 50) rfl)) (fun _ h9 => h9) rfl dX1_perform_272 ?_
    refine W.widen (k := lc - S0.1) (n := ls - S0.2.1) (show S.1 - S0.1 ≤ lc - S0.1 from Nat.sub_le_sub_right hZ.2.2.1 _) (show S.2.1 - S0.2.1 ≤ ls - S0.2.1 from Nat.sub_le_sub_right hZ.2.2.2 _) ?_
    subst hQ
    exact W.iret (v := (giC S ((grC S x0 1).getD 0) 1)) hx hb hr (fun t ht hW => ⟨⟨(giC S ((grC S x0 1).getD 0) 1), (S, ad), rfl, ⟨hE.trans hX.symm, hZ.1, hZ.2.1⟩, by rw [ht]; exact hP, hD⟩, hS.F ht⟩) hS.2.2 dX1_perform_275
  have B_Y1_perform_280a : ∀ (S : Cst) (ad : Nat → Nat) (x1 : Int32) (x2 : Int32) (x3 : Int32) (x4 : Int32) (x5 : Int32) (x6 : Option Nat) (y0 : Int32) (H : Heap) (locs : List Loc) (ls_ : Array Slot), b_Y1_perform_280a S x0 x1 x2 x3 x4 x5 x6 y0 = X → q_Y1_perform_280a S x0 lc ls x1 x2 x3 x4 x5 x6 y0 → nH S0 ad0 lc ls S ad → va_P G vwCl (wsC K ad S) H → va_D A (wsC K ad S) → va_S A s.heap H locs → lv_has ls_ 7 [(0, .ref (ad x0)), (1, .int x1), (2, .int x2), (3, .int x3), (4, .int x4), (5, .int x5), (6, va_re ad x6)] → W p l e ({ frames := 6, cells := lc - S0.1, slots := ls - S0.2.1, locals := 174 } : Room) s m #[Value.ref (ad0 x0), Value.int a1, Value.int a2, Value.int a3, Value.int a4, Value.int a5] below meth c H locs (S.1 - S0.1) (S.2.1 - S0.2.1) Q (F0 m 280 ls_ [.int y0]) := by
    intro S ad x1 x2 x3 x4 x5 x6 y0 H locs ls_ hE hp hZ hP hD hS hl
    unfold b_Y1_perform_280a at hE
    unfold q_Y1_perform_280a at hp
    refine W.widen (k := lc - S0.1) (n := ls - S0.2.1) (show S.1 - S0.1 ≤ lc - S0.1 from Nat.sub_le_sub_right hZ.2.2.1 _) (show S.2.1 - S0.2.1 ≤ ls - S0.2.1 from Nat.sub_le_sub_right hZ.2.2.2 _) ?_
    subst hQ
    exact W.iret (v := y0) hx hb hr (fun t ht hW => ⟨⟨y0, (S, ad), rfl, ⟨hE.trans hX.symm, hZ.1, hZ.2.1⟩, by rw [ht]; exact hP, hD⟩, hS.F ht⟩) hS.2.2 dX1_perform_280
  have B_Y1_perform_296 : ∀ (S : Cst) (ad : Nat → Nat) (x1 : Int32) (x2 : Int32) (x3 : Int32) (x4 : Int32) (x5 : Int32) (x6 : Option Nat) (y0 : Int32) (H : Heap) (locs : List Loc) (ls_ : Array Slot), b_Y1_perform_296 S x0 x1 x2 x3 x4 x5 x6 y0 = X → q_Y1_perform_296 S x0 lc ls x1 x2 x3 x4 x5 x6 y0 → nH S0 ad0 lc ls S ad → va_P G vwCl (wsC K ad S) H → va_D A (wsC K ad S) → va_S A s.heap H locs → lv_has ls_ 7 [(0, .ref (ad x0)), (1, .int x1), (2, .int x2), (3, .int x3), (4, .int x4), (5, .int x5), (6, va_re ad x6)] → W p l e ({ frames := 6, cells := lc - S0.1, slots := ls - S0.2.1, locals := 174 } : Room) s m #[Value.ref (ad0 x0), Value.int a1, Value.int a2, Value.int a3, Value.int a4, Value.int a5] below meth c H locs (S.1 - S0.1) (S.2.1 - S0.2.1) Q (F0 m 296 ls_ [.int y0]) := by
    intro S ad x1 x2 x3 x4 x5 x6 y0 H locs ls_ hE hp hZ hP hD hS hl
    unfold b_Y1_perform_296 at hE
    unfold q_Y1_perform_296 at hp
    refine W.widen (k := lc - S0.1) (n := ls - S0.2.1) (show S.1 - S0.1 ≤ lc - S0.1 from Nat.sub_le_sub_right hZ.2.2.1 _) (show S.2.1 - S0.2.1 ≤ ls - S0.2.1 from Nat.sub_le_sub_right hZ.2.2.2 _) ?_
    subst hQ
    exact W.iret (v := y0) hx hb hr (fun t ht hW => ⟨⟨y0, (S, ad), rfl, ⟨hE.trans hX.symm, hZ.1, hZ.2.1⟩, by rw [ht]; exact hP, hD⟩, hS.F ht⟩) hS.2.2 dX1_perform_296
  have B_Y1_perform_301a : ∀ (S : Cst) (ad : Nat → Nat) (x1 : Int32) (x2 : Int32) (x3 : Int32) (x4 : Int32) (x5 : Int32) (x6 : Option Nat) (y0 : Int32) (H : Heap) (locs : List Loc) (ls_ : Array Slot), b_Y1_perform_301a S x0 x1 x2 x3 x4 x5 x6 y0 = X → q_Y1_perform_301a S x0 lc ls x1 x2 x3 x4 x5 x6 y0 → nH S0 ad0 lc ls S ad → va_P G vwCl (wsC K ad S) H → va_D A (wsC K ad S) → va_S A s.heap H locs → lv_has ls_ 7 [(0, .ref (ad x0)), (1, .int x1), (2, .int x2), (3, .int x3), (4, .int x4), (5, .int x5), (6, va_re ad x6)] → W p l e ({ frames := 6, cells := lc - S0.1, slots := ls - S0.2.1, locals := 174 } : Room) s m #[Value.ref (ad0 x0), Value.int a1, Value.int a2, Value.int a3, Value.int a4, Value.int a5] below meth c H locs (S.1 - S0.1) (S.2.1 - S0.2.1) Q (F0 m 301 ls_ [.int y0]) := by
    intro S ad x1 x2 x3 x4 x5 x6 y0 H locs ls_ hE hp hZ hP hD hS hl
    unfold b_Y1_perform_301a at hE
    unfold q_Y1_perform_301a at hp
    refine W.widen (k := lc - S0.1) (n := ls - S0.2.1) (show S.1 - S0.1 ≤ lc - S0.1 from Nat.sub_le_sub_right hZ.2.2.1 _) (show S.2.1 - S0.2.1 ≤ ls - S0.2.1 from Nat.sub_le_sub_right hZ.2.2.2 _) ?_
    subst hQ
    exact W.iret (v := y0) hx hb hr (fun t ht hW => ⟨⟨y0, (S, ad), rfl, ⟨hE.trans hX.symm, hZ.1, hZ.2.1⟩, by rw [ht]; exact hP, hD⟩, hS.F ht⟩) hS.2.2 dX1_perform_301
  have B_M : ∀ (S : Cst) (ad : Nat → Nat) (x1 : Int32) (x2 : Int32) (x3 : Int32) (x4 : Int32) (x5 : Int32) (H : Heap) (locs : List Loc) (ls_ : Array Slot), f_Y1_perform S x0 x1 x2 x3 x4 x5 = X → p_Y1_perform S x0 lc ls x1 x2 x3 x4 x5 → nH S0 ad0 lc ls S ad → va_P G vwCl (wsC K ad S) H → va_D A (wsC K ad S) → va_S A s.heap H locs → lv_has ls_ 7 [(0, .ref (ad x0)), (1, .int x1), (2, .int x2), (3, .int x3), (4, .int x4), (5, .int x5)] → W p l e ({ frames := 6, cells := lc - S0.1, slots := ls - S0.2.1, locals := 174 } : Room) s m #[Value.ref (ad0 x0), Value.int a1, Value.int a2, Value.int a3, Value.int a4, Value.int a5] below meth c H locs (S.1 - S0.1) (S.2.1 - S0.2.1) Q (F0 m 0 ls_ []) := by
    intro S ad x1 x2 x3 x4 x5 H locs ls_ hE hp hZ hP hD hS hl
    unfold f_Y1_perform at hE
    unfold p_Y1_perform at hp
    refine lv_aload_n hx hb dX1_perform_0 rfl (lv_at hl 0 rfl) ?_
    refine va_get (D := G) (ci := 0) (v := va_re ad (grC S x0 1)) (C := RX0) (T := TX0) (N := 11) hx hb hts iX0 hown hK hP x0 (at_0 (k_x0.n hZ.1)) rfl 1 (by decide) (hw (.fieldLink RX1 9 "MotionFloor$Assembly" "pending" "LMotionFloor$Pile;") (List.mem_of_getElem? (i := 0) rfl)) (fun _ h9 => h9) rfl dX1_perform_1 ?_
    obtain ⟨hy1, hp⟩ := hp
    refine cTop (r := (grC S x0 1)) hy1.1 ?_
    obtain ⟨hy2, hp⟩ := hp
    refine cGoq (va_runV (As := []) (rest := []) ⟨hx, hb, hml, hown, hts⟩ (c_Y5_top l G K ad S ((grC S x0 1).getD 0) _) (cwV 0 hts (wGV t_ (mw (.methodLink RX1 15 yX5_top) (List.mem_of_getElem? (i := 1) rfl)) (mw (.instanceMethod yX5_top) (List.mem_of_getElem? (i := 2) rfl)) (mw (.selects RX5 yX5_top yX5_top) (List.mem_of_getElem? (i := 3) rfl)) (mw (.initialized RX5) (List.mem_of_getElem? (i := 4) rfl)) j_Y5_top) rfl rfl rfl (by decide +kernel) ⟨Nat.le_of_ble_eq_true rfl, Nat.le_of_ble_eq_true rfl⟩) (cPV hK hTE hP hD 4 rfl (at_4 hy1.2) ⟨hy1.2, hy2⟩) rfl rfl hl.1 rfl (lv_room (Nat.le_of_ble_eq_true rfl)) dX1_perform_4 ⟨(show S.1 - S0.1 ≤ lc - S0.1 from Nat.sub_le_sub_right hZ.2.2.1 _), (show S.2.1 - S0.2.1 ≤ ls - S0.2.1 from Nat.sub_le_sub_right hZ.2.2.2 _)⟩) hP hD hS hA (fun r4 u3 H locs hv hP hD hS => ?_)
    have h1 := congrArg Prod.fst hv
    have h2 := (congrArg Prod.snd hv).symm
    dsimp only at h1 h2
    subst h1
    subst h2
    refine cAstore (ad := ad) (r := (f_Y5_top S ((grC S x0 1).getD 0))) (i := 6) (lv' := [(6, va_re ad (f_Y5_top S ((grC S x0 1).getD 0))), (0, .ref (ad x0)), (1, .int x1), (2, .int x2), (3, .int x3), (4, .int x4), (5, .int x5)]) hx hb dX1_perform_7 hl (by decide) rfl (fun ls_ hl => ?_)
    refine lv_iload_n hx hb dX1_perform_9 rfl (lv_at hl 2 rfl) ?_
    by_cases s1 : x1 = 1
    · rw [if_pos s1] at hE hp
      refine lv_tableIn (off := 102) (tgt := 112) hx hb dX1_perform_10 (by rw [s1]; decide) (by rw [s1]; decide) (by rw [s1]; decide) (by decide) ?_
      refine lv_aload_n hx hb dX1_perform_112 rfl (lv_at hl 1 rfl) ?_
      refine va_get (D := G) (ci := 0) (v := va_re ad (grC S x0 0)) (C := RX0) (T := TX0) (N := 11) hx hb hts iX0 hown hK hP x0 (at_0 (k_x0.n hZ.1)) rfl 0 (by decide) (hw (.fieldLink RX1 21 "MotionFloor$Assembly" "house" "LMotionFloor$House;") (List.mem_of_getElem? (i := 5) rfl)) (fun _ h9 => h9) rfl dX1_perform_113 ?_
      refine lv_iload_n hx hb dX1_perform_116 rfl (lv_at hl 3 rfl) ?_
      obtain ⟨hy5, hp⟩ := hp
      refine cTop2 (r := (grC S x0 0)) hy5.1 ?_
      obtain ⟨hy6, hp⟩ := hp
      refine cGoi (va_runV (As := [.int x2]) (rest := []) ⟨hx, hb, hml, hown, hts⟩ (c_Y2_arrive l G K ad S ((grC S x0 0).getD 0) x2 _) (cwV 1 hts (wGV t_ (mw (.methodLink RX1 25 yX2_arrive) (List.mem_of_getElem? (i := 6) rfl)) (mw (.instanceMethod yX2_arrive) (List.mem_of_getElem? (i := 7) rfl)) (mw (.selects RX2 yX2_arrive yX2_arrive) (List.mem_of_getElem? (i := 8) rfl)) (mw (.initialized RX2) (List.mem_of_getElem? (i := 9) rfl)) j_Y2_arrive) rfl rfl rfl (by decide +kernel) ⟨Nat.le_of_ble_eq_true rfl, Nat.le_of_ble_eq_true rfl⟩) (cPV hK hTE hP hD 1 rfl (at_1 hy5.2) ⟨hy5.2, hy6⟩) rfl rfl hl.1 rfl (lv_room (Nat.le_of_ble_eq_true rfl)) dX1_perform_117 ⟨(show S.1 - S0.1 ≤ lc - S0.1 from Nat.sub_le_sub_right hZ.2.2.1 _), (show S.2.1 - S0.2.1 ≤ ls - S0.2.1 from Nat.sub_le_sub_right hZ.2.2.2 _)⟩) hP hD hS hA (fun r8 u7 H locs hv hP hD hS => ?_)
      obtain ⟨hv, hz⟩ := hv
      have hZ := hZ.k hz
      refine cCells (cells' := u7.1 - S0.1) (slots' := u7.2.1 - S0.2.1) (by have e : S.1 = u7.1 := hz.1.1; show S.1 - S0.1 + 0 = _; omega) (by have e : S.2.1 = u7.2.1 := hz.1.2; show S.2.1 - S0.2.1 + 0 = _; omega) ?_
      rw [← hv] at hE hp
      dsimp only at hE hp
      exact B_Y1_perform_120a u7 ad x1 x2 x3 x4 x5 (f_Y5_top S ((grC S x0 1).getD 0)) r8 _ _ _ hE hp hZ hP hD hS (lv_sub hl [1, 2, 3, 4, 5, 6, 0] rfl)
    rw [if_neg s1] at hE hp
    have s1 := wNe (b := 1) rfl (by decide) s1
    by_cases s2 : x1 = 2
    · rw [if_pos s2] at hE hp
      refine lv_tableIn (off := 111) (tgt := 121) hx hb dX1_perform_10 (by rw [s2]; decide) (by rw [s2]; decide) (by rw [s2]; decide) (by decide) ?_
      refine lv_aload_n hx hb dX1_perform_121 rfl (lv_at hl 1 rfl) ?_
      refine va_get (D := G) (ci := 0) (v := va_re ad (grC S x0 0)) (C := RX0) (T := TX0) (N := 11) hx hb hts iX0 hown hK hP x0 (at_0 (k_x0.n hZ.1)) rfl 0 (by decide) (hw (.fieldLink RX1 21 "MotionFloor$Assembly" "house" "LMotionFloor$House;") (List.mem_of_getElem? (i := 5) rfl)) (fun _ h9 => h9) rfl dX1_perform_122 ?_
      refine lv_iload_n hx hb dX1_perform_125 rfl (lv_at hl 3 rfl) ?_
      obtain ⟨hy9, hp⟩ := hp
      refine cTop2 (r := (grC S x0 0)) hy9.1 ?_
      obtain ⟨hy10, hp⟩ := hp
      refine cGoi (va_runV (As := [.int x2]) (rest := []) ⟨hx, hb, hml, hown, hts⟩ (c_Y2_leave l G K ad S ((grC S x0 0).getD 0) x2 _) (cwV 1 hts (wGV t_ (mw (.methodLink RX1 31 yX2_leave) (List.mem_of_getElem? (i := 10) rfl)) (mw (.instanceMethod yX2_leave) (List.mem_of_getElem? (i := 11) rfl)) (mw (.selects RX2 yX2_leave yX2_leave) (List.mem_of_getElem? (i := 12) rfl)) (mw (.initialized RX2) (List.mem_of_getElem? (i := 9) rfl)) j_Y2_leave) rfl rfl rfl (by decide +kernel) ⟨Nat.le_of_ble_eq_true rfl, Nat.le_of_ble_eq_true rfl⟩) (cPV hK hTE hP hD 1 rfl (at_1 hy9.2) ⟨hy9.2, hy10⟩) rfl rfl hl.1 rfl (lv_room (Nat.le_of_ble_eq_true rfl)) dX1_perform_126 ⟨(show S.1 - S0.1 ≤ lc - S0.1 from Nat.sub_le_sub_right hZ.2.2.1 _), (show S.2.1 - S0.2.1 ≤ ls - S0.2.1 from Nat.sub_le_sub_right hZ.2.2.2 _)⟩) hP hD hS hA (fun r12 u11 H locs hv hP hD hS => ?_)
      obtain ⟨hv, hz⟩ := hv
      have hZ := hZ.k hz
      refine cCells (cells' := u11.1 - S0.1) (slots' := u11.2.1 - S0.2.1) (by have e : S.1 = u11.1 := hz.1.1; show S.1 - S0.1 + 0 = _; omega) (by have e : S.2.1 = u11.2.1 := hz.1.2; show S.2.1 - S0.2.1 + 0 = _; omega) ?_
      rw [← hv] at hE hp
      dsimp only at hE hp
      exact B_Y1_perform_129a u11 ad x1 x2 x3 x4 x5 (f_Y5_top S ((grC S x0 1).getD 0)) r12 _ _ _ hE hp hZ hP hD hS (lv_sub hl [1, 2, 3, 4, 5, 6, 0] rfl)
    rw [if_neg s2] at hE hp
    have s2 := wNe (b := 2) rfl (by decide) s2
    by_cases s3 : x1 = 3
    · rw [if_pos s3] at hE hp
      refine lv_tableIn (off := 120) (tgt := 130) hx hb dX1_perform_10 (by rw [s3]; decide) (by rw [s3]; decide) (by rw [s3]; decide) (by decide) ?_
      refine lv_aload_n hx hb dX1_perform_130 rfl (lv_at hl 1 rfl) ?_
      refine va_get (D := G) (ci := 0) (v := va_re ad (grC S x0 0)) (C := RX0) (T := TX0) (N := 11) hx hb hts iX0 hown hK hP x0 (at_0 (k_x0.n hZ.1)) rfl 0 (by decide) (hw (.fieldLink RX1 21 "MotionFloor$Assembly" "house" "LMotionFloor$House;") (List.mem_of_getElem? (i := 5) rfl)) (fun _ h9 => h9) rfl dX1_perform_131 ?_
      refine lv_iload_n hx hb dX1_perform_134 rfl (lv_at hl 3 rfl) ?_
      obtain ⟨hy13, hp⟩ := hp
      refine cTop2 (r := (grC S x0 0)) hy13.1 ?_
      refine va_put (D := G) (ci := 1) (v := .int x2) (ty := .int) (C := RX2) (T := TX2) (N := 8) hx hb hts iX2 tyX2 tyX2_ok nmX2 hown hK hP hD hS ((grC S x0 0).getD 0) (at_1 hy13.2) rfl 4 (by decide) (hw (.fieldLink RX1 34 "MotionFloor$House" "quorum" "I") (List.mem_of_getElem? (i := 13) rfl)) (fun _ h9 => h9) rfl (by decide +kernel) rfl rfl (Nat.le_of_ble_eq_true rfl) dX1_perform_135 (fun H locs hP hD hS => ?_)
      rw [st_1_4 hy13.2] at hP hD
      have hZ := hZ.k (eK.si S ((grC S x0 0).getD 0) 4 x2)
      refine lv_iload_n hx hb dX1_perform_138 rfl (lv_at hl 3 rfl) ?_
      refine W.widen (k := lc - S0.1) (n := ls - S0.2.1) (show S.1 - S0.1 ≤ lc - S0.1 from Nat.sub_le_sub_right hZ.2.2.1 _) (show S.2.1 - S0.2.1 ≤ ls - S0.2.1 from Nat.sub_le_sub_right hZ.2.2.2 _) ?_
      subst hQ
      exact W.iret (v := x2) hx hb hr (fun t ht hW => ⟨⟨x2, ((siC S ((grC S x0 0).getD 0) 4 x2), ad), rfl, ⟨hE.trans hX.symm, hZ.1, hZ.2.1⟩, by rw [ht]; exact hP, hD⟩, hS.F ht⟩) hS.2.2 dX1_perform_139
    rw [if_neg s3] at hE hp
    have s3 := wNe (b := 3) rfl (by decide) s3
    by_cases s4 : x1 = 4
    · rw [if_pos s4] at hE hp
      refine lv_tableIn (off := 130) (tgt := 140) hx hb dX1_perform_10 (by rw [s4]; decide) (by rw [s4]; decide) (by rw [s4]; decide) (by decide) ?_
      refine lv_aload_n hx hb dX1_perform_140 rfl (lv_at hl 1 rfl) ?_
      refine va_get (D := G) (ci := 0) (v := va_re ad (grC S x0 0)) (C := RX0) (T := TX0) (N := 11) hx hb hts iX0 hown hK hP x0 (at_0 (k_x0.n hZ.1)) rfl 0 (by decide) (hw (.fieldLink RX1 21 "MotionFloor$Assembly" "house" "LMotionFloor$House;") (List.mem_of_getElem? (i := 5) rfl)) (fun _ h9 => h9) rfl dX1_perform_141 ?_
      refine lv_iload_n hx hb dX1_perform_144 rfl (lv_at hl 3 rfl) ?_
      obtain ⟨hy14, hp⟩ := hp
      refine cTop2 (r := (grC S x0 0)) hy14.1 ?_
      obtain ⟨hy15, hp⟩ := hp
      refine cGoi (va_runV (As := [.int x2]) (rest := []) ⟨hx, hb, hml, hown, hts⟩ (c_Y2_takeChair l G K ad S ((grC S x0 0).getD 0) x2 _) (cwV 1 hts (wGV t_ (mw (.methodLink RX1 38 yX2_takeChair) (List.mem_of_getElem? (i := 14) rfl)) (mw (.instanceMethod yX2_takeChair) (List.mem_of_getElem? (i := 15) rfl)) (mw (.selects RX2 yX2_takeChair yX2_takeChair) (List.mem_of_getElem? (i := 16) rfl)) (mw (.initialized RX2) (List.mem_of_getElem? (i := 9) rfl)) j_Y2_takeChair) rfl rfl rfl (by decide +kernel) ⟨Nat.le_of_ble_eq_true rfl, Nat.le_of_ble_eq_true rfl⟩) (cPV hK hTE hP hD 1 rfl (at_1 hy14.2) ⟨hy14.2, hy15⟩) rfl rfl hl.1 rfl (lv_room (Nat.le_of_ble_eq_true rfl)) dX1_perform_145 ⟨(show S.1 - S0.1 ≤ lc - S0.1 from Nat.sub_le_sub_right hZ.2.2.1 _), (show S.2.1 - S0.2.1 ≤ ls - S0.2.1 from Nat.sub_le_sub_right hZ.2.2.2 _)⟩) hP hD hS hA (fun r17 u16 H locs hv hP hD hS => ?_)
      obtain ⟨hv, hz⟩ := hv
      have hZ := hZ.k hz
      refine cCells (cells' := u16.1 - S0.1) (slots' := u16.2.1 - S0.2.1) (by have e : S.1 = u16.1 := hz.1.1; show S.1 - S0.1 + 0 = _; omega) (by have e : S.2.1 = u16.2.1 := hz.1.2; show S.2.1 - S0.2.1 + 0 = _; omega) ?_
      rw [← hv] at hE hp
      dsimp only at hE hp
      exact B_Y1_perform_148a u16 ad x1 x2 x3 x4 x5 (f_Y5_top S ((grC S x0 1).getD 0)) r17 _ _ _ hE hp hZ hP hD hS (lv_sub hl [1, 2, 3, 4, 5, 6, 0] rfl)
    rw [if_neg s4] at hE hp
    have s4 := wNe (b := 4) rfl (by decide) s4
    by_cases s5 : x1 = 5
    · rw [if_pos s5] at hE hp
      refine lv_tableIn (off := 139) (tgt := 149) hx hb dX1_perform_10 (by rw [s5]; decide) (by rw [s5]; decide) (by rw [s5]; decide) (by decide) ?_
      refine lv_aload_n hx hb dX1_perform_149 rfl (lv_at hl 1 rfl) ?_
      refine va_get (D := G) (ci := 0) (v := va_re ad (grC S x0 0)) (C := RX0) (T := TX0) (N := 11) hx hb hts iX0 hown hK hP x0 (at_0 (k_x0.n hZ.1)) rfl 0 (by decide) (hw (.fieldLink RX1 21 "MotionFloor$Assembly" "house" "LMotionFloor$House;") (List.mem_of_getElem? (i := 5) rfl)) (fun _ h9 => h9) rfl dX1_perform_150 ?_
      refine lv_iload_n hx hb dX1_perform_153 rfl (lv_at hl 3 rfl) ?_
      refine lv_iload_n hx hb dX1_perform_154 rfl (lv_at hl 4 rfl) ?_
      obtain ⟨hy18, hp⟩ := hp
      refine cTop3 (r := (grC S x0 0)) hy18.1 ?_
      obtain ⟨hy19, hp⟩ := hp
      refine cGoi (va_runV (As := [.int x2, .int x3]) (rest := []) ⟨hx, hb, hml, hown, hts⟩ (c_Y2_replaceMajority l G K ad S ((grC S x0 0).getD 0) x2 x3 _) (cwV 2 hts (wGV t_ (mw (.methodLink RX1 41 yX2_replaceMajority) (List.mem_of_getElem? (i := 17) rfl)) (mw (.instanceMethod yX2_replaceMajority) (List.mem_of_getElem? (i := 18) rfl)) (mw (.selects RX2 yX2_replaceMajority yX2_replaceMajority) (List.mem_of_getElem? (i := 19) rfl)) (mw (.initialized RX2) (List.mem_of_getElem? (i := 9) rfl)) j_Y2_replaceMajority) rfl rfl rfl (by decide +kernel) ⟨Nat.le_of_ble_eq_true rfl, Nat.le_of_ble_eq_true rfl⟩) (cPV hK hTE hP hD 1 rfl (at_1 hy18.2) ⟨hy18.2, hy19⟩) rfl rfl hl.1 rfl (lv_room (Nat.le_of_ble_eq_true rfl)) dX1_perform_155 ⟨(show S.1 - S0.1 ≤ lc - S0.1 from Nat.sub_le_sub_right hZ.2.2.1 _), (show S.2.1 - S0.2.1 ≤ ls - S0.2.1 from Nat.sub_le_sub_right hZ.2.2.2 _)⟩) hP hD hS hA (fun r21 u20 H locs hv hP hD hS => ?_)
      obtain ⟨hv, hz⟩ := hv
      have hZ := hZ.k hz
      refine cCells (cells' := u20.1 - S0.1) (slots' := u20.2.1 - S0.2.1) (by have e : S.1 = u20.1 := hz.1.1; show S.1 - S0.1 + 0 = _; omega) (by have e : S.2.1 = u20.2.1 := hz.1.2; show S.2.1 - S0.2.1 + 0 = _; omega) ?_
      rw [← hv] at hE hp
      dsimp only at hE hp
      exact B_Y1_perform_158a u20 ad x1 x2 x3 x4 x5 (f_Y5_top S ((grC S x0 1).getD 0)) r21 _ _ _ hE hp hZ hP hD hS (lv_sub hl [1, 2, 3, 4, 5, 6, 0] rfl)
    rw [if_neg s5] at hE hp
    have s5 := wNe (b := 5) rfl (by decide) s5
    by_cases s6 : x1 = 6
    · rw [if_pos s6] at hE hp
      refine lv_tableIn (off := 149) (tgt := 159) hx hb dX1_perform_10 (by rw [s6]; decide) (by rw [s6]; decide) (by rw [s6]; decide) (by decide) ?_
      refine lv_aload_n hx hb dX1_perform_159 rfl (lv_at hl 1 rfl) ?_
      refine va_get (D := G) (ci := 0) (v := va_re ad (grC S x0 0)) (C := RX0) (T := TX0) (N := 11) hx hb hts iX0 hown hK hP x0 (at_0 (k_x0.n hZ.1)) rfl 0 (by decide) (hw (.fieldLink RX1 21 "MotionFloor$Assembly" "house" "LMotionFloor$House;") (List.mem_of_getElem? (i := 5) rfl)) (fun _ h9 => h9) rfl dX1_perform_160 ?_
      refine lv_iload_n hx hb dX1_perform_163 rfl (lv_at hl 3 rfl) ?_
      obtain ⟨hy22, hp⟩ := hp
      refine cTop2 (r := (grC S x0 0)) hy22.1 ?_
      refine va_put (D := G) (ci := 1) (v := .int x2) (ty := .int) (C := RX2) (T := TX2) (N := 8) hx hb hts iX2 tyX2 tyX2_ok nmX2 hown hK hP hD hS ((grC S x0 0).getD 0) (at_1 hy22.2) rfl 5 (by decide) (hw (.fieldLink RX1 45 "MotionFloor$House" "limit" "I") (List.mem_of_getElem? (i := 20) rfl)) (fun _ h9 => h9) rfl (by decide +kernel) rfl rfl (Nat.le_of_ble_eq_true rfl) dX1_perform_164 (fun H locs hP hD hS => ?_)
      rw [st_1_5 hy22.2] at hP hD
      have hZ := hZ.k (eK.si S ((grC S x0 0).getD 0) 5 x2)
      refine lv_iload_n hx hb dX1_perform_167 rfl (lv_at hl 3 rfl) ?_
      refine W.widen (k := lc - S0.1) (n := ls - S0.2.1) (show S.1 - S0.1 ≤ lc - S0.1 from Nat.sub_le_sub_right hZ.2.2.1 _) (show S.2.1 - S0.2.1 ≤ ls - S0.2.1 from Nat.sub_le_sub_right hZ.2.2.2 _) ?_
      subst hQ
      exact W.iret (v := x2) hx hb hr (fun t ht hW => ⟨⟨x2, ((siC S ((grC S x0 0).getD 0) 5 x2), ad), rfl, ⟨hE.trans hX.symm, hZ.1, hZ.2.1⟩, by rw [ht]; exact hP, hD⟩, hS.F ht⟩) hS.2.2 dX1_perform_168
    rw [if_neg s6] at hE hp
    have s6 := wNe (b := 6) rfl (by decide) s6
    by_cases s7 : x1 = 7
    · rw [if_pos s7] at hE hp
      refine lv_tableIn (off := 159) (tgt := 169) hx hb dX1_perform_10 (by rw [s7]; decide) (by rw [s7]; decide) (by rw [s7]; decide) (by decide) ?_
      refine lv_aload_n hx hb dX1_perform_169 rfl (lv_at hl 1 rfl) ?_
      refine va_get (D := G) (ci := 0) (v := va_re ad (grC S x0 0)) (C := RX0) (T := TX0) (N := 11) hx hb hts iX0 hown hK hP x0 (at_0 (k_x0.n hZ.1)) rfl 0 (by decide) (hw (.fieldLink RX1 21 "MotionFloor$Assembly" "house" "LMotionFloor$House;") (List.mem_of_getElem? (i := 5) rfl)) (fun _ h9 => h9) rfl dX1_perform_170 ?_
      refine cAload (ad := ad) (r := (f_Y5_top S ((grC S x0 1).getD 0))) hx hb dX1_perform_173 (lv_at hl 0 rfl) ?_
      refine lv_iload_n hx hb dX1_perform_175 rfl (lv_at hl 3 rfl) ?_
      obtain ⟨hy23, hp⟩ := hp
      refine cTop3 (r := (grC S x0 0)) hy23.1 ?_
      obtain ⟨hy24, hp⟩ := hp
      refine cGoi (va_runS (As := [.ref (ad ((grC S x0 0).getD 0)), va_re ad (f_Y5_top S ((grC S x0 1).getD 0)), .int x2]) (rest := []) ⟨hx, hb, hml, hown, hts⟩ (c_Y1_giveFloor l G K ad S ((grC S x0 0).getD 0) (f_Y5_top S ((grC S x0 1).getD 0)) x2 _) (va_cwS 3 hts (wGS t_ (mw (.methodLink RX1 48 yX1_giveFloor) (List.mem_of_getElem? (i := 21) rfl)) (mw (.static yX1_giveFloor) (List.mem_of_getElem? (i := 22) rfl)) (mw (.initialized RX1) (List.mem_of_getElem? (i := 23) rfl)) j_Y1_giveFloor) rfl rfl rfl (by decide +kernel) ⟨Nat.le_of_ble_eq_true rfl, Nat.le_of_ble_eq_true rfl⟩) (cPS hK hTE hP hD ⟨hy23.2, hy24⟩) rfl rfl hl.1 rfl (lv_room (Nat.le_of_ble_eq_true rfl)) dX1_perform_176 ⟨(show S.1 - S0.1 ≤ lc - S0.1 from Nat.sub_le_sub_right hZ.2.2.1 _), (show S.2.1 - S0.2.1 ≤ ls - S0.2.1 from Nat.sub_le_sub_right hZ.2.2.2 _)⟩) hP hD hS hA (fun r26 u25 H locs hv hP hD hS => ?_)
      obtain ⟨hv, hz⟩ := hv
      have hZ := hZ.k hz
      refine cCells (cells' := u25.1 - S0.1) (slots' := u25.2.1 - S0.2.1) (by have e : S.1 = u25.1 := hz.1.1; show S.1 - S0.1 + 0 = _; omega) (by have e : S.2.1 = u25.2.1 := hz.1.2; show S.2.1 - S0.2.1 + 0 = _; omega) ?_
      rw [← hv] at hE hp
      dsimp only at hE hp
      exact B_Y1_perform_179a u25 ad x1 x2 x3 x4 x5 (f_Y5_top S ((grC S x0 1).getD 0)) r26 _ _ _ hE hp hZ hP hD hS (lv_sub hl [1, 2, 3, 4, 5, 6, 0] rfl)
    rw [if_neg s7] at hE hp
    have s7 := wNe (b := 7) rfl (by decide) s7
    by_cases s8 : x1 = 8
    · rw [if_pos s8] at hE hp
      refine lv_tableIn (off := 170) (tgt := 180) hx hb dX1_perform_10 (by rw [s8]; decide) (by rw [s8]; decide) (by rw [s8]; decide) (by decide) ?_
      refine lv_aload_n hx hb dX1_perform_180 rfl (lv_at hl 1 rfl) ?_
      refine va_get (D := G) (ci := 0) (v := va_re ad (grC S x0 0)) (C := RX0) (T := TX0) (N := 11) hx hb hts iX0 hown hK hP x0 (at_0 (k_x0.n hZ.1)) rfl 0 (by decide) (hw (.fieldLink RX1 21 "MotionFloor$Assembly" "house" "LMotionFloor$House;") (List.mem_of_getElem? (i := 5) rfl)) (fun _ h9 => h9) rfl dX1_perform_181 ?_
      obtain ⟨hy27, hp⟩ := hp
      refine cTop (r := (grC S x0 0)) hy27.1 ?_
      obtain ⟨hy28, hp⟩ := hp
      refine cGoi (va_runS (As := [.ref (ad ((grC S x0 0).getD 0))]) (rest := []) ⟨hx, hb, hml, hown, hts⟩ (c_Y1_cedeFloor l G K ad S ((grC S x0 0).getD 0) _) (va_cwS 1 hts (wGS t_ (mw (.methodLink RX1 54 yX1_cedeFloor) (List.mem_of_getElem? (i := 24) rfl)) (mw (.static yX1_cedeFloor) (List.mem_of_getElem? (i := 25) rfl)) (mw (.initialized RX1) (List.mem_of_getElem? (i := 23) rfl)) j_Y1_cedeFloor) rfl rfl rfl (by decide +kernel) ⟨Nat.le_of_ble_eq_true rfl, Nat.le_of_ble_eq_true rfl⟩) (cPS hK hTE hP hD ⟨hy27.2, hy28⟩) rfl rfl hl.1 rfl (lv_room (Nat.le_of_ble_eq_true rfl)) dX1_perform_184 ⟨(show S.1 - S0.1 ≤ lc - S0.1 from Nat.sub_le_sub_right hZ.2.2.1 _), (show S.2.1 - S0.2.1 ≤ ls - S0.2.1 from Nat.sub_le_sub_right hZ.2.2.2 _)⟩) hP hD hS hA (fun r30 u29 H locs hv hP hD hS => ?_)
      obtain ⟨hv, hz⟩ := hv
      have hZ := hZ.k hz
      refine cCells (cells' := u29.1 - S0.1) (slots' := u29.2.1 - S0.2.1) (by have e : S.1 = u29.1 := hz.1.1; show S.1 - S0.1 + 0 = _; omega) (by have e : S.2.1 = u29.2.1 := hz.1.2; show S.2.1 - S0.2.1 + 0 = _; omega) ?_
      rw [← hv] at hE hp
      dsimp only at hE hp
      exact B_Y1_perform_187a u29 ad x1 x2 x3 x4 x5 (f_Y5_top S ((grC S x0 1).getD 0)) r30 _ _ _ hE hp hZ hP hD hS (lv_sub hl [1, 2, 3, 4, 5, 6, 0] rfl)
    rw [if_neg s8] at hE hp
    have s8 := wNe (b := 8) rfl (by decide) s8
    by_cases s9 : x1 = 9
    · rw [if_pos s9] at hE hp
      refine lv_tableIn (off := 178) (tgt := 188) hx hb dX1_perform_10 (by rw [s9]; decide) (by rw [s9]; decide) (by rw [s9]; decide) (by decide) ?_
      refine cAload (ad := ad) (r := (f_Y5_top S ((grC S x0 1).getD 0))) hx hb dX1_perform_188 (lv_at hl 0 rfl) ?_
      obtain ⟨hy31, hp⟩ := hp
      refine cGoi (va_runS (As := [va_re ad (f_Y5_top S ((grC S x0 1).getD 0))]) (rest := []) ⟨hx, hb, hml, hown, hts⟩ (c_Y1_speak l G K ad S (f_Y5_top S ((grC S x0 1).getD 0)) _) (va_cwS 1 hts (wGS t_ (mw (.methodLink RX1 58 yX1_speak) (List.mem_of_getElem? (i := 26) rfl)) (mw (.static yX1_speak) (List.mem_of_getElem? (i := 27) rfl)) (mw (.initialized RX1) (List.mem_of_getElem? (i := 23) rfl)) j_Y1_speak) rfl rfl rfl (by decide +kernel) ⟨Nat.le_of_ble_eq_true rfl, Nat.le_of_ble_eq_true rfl⟩) (cPS hK hTE hP hD hy31) rfl rfl hl.1 rfl (lv_room (Nat.le_of_ble_eq_true rfl)) dX1_perform_190 ⟨(show S.1 - S0.1 ≤ lc - S0.1 from Nat.sub_le_sub_right hZ.2.2.1 _), (show S.2.1 - S0.2.1 ≤ ls - S0.2.1 from Nat.sub_le_sub_right hZ.2.2.2 _)⟩) hP hD hS hA (fun r33 u32 H locs hv hP hD hS => ?_)
      obtain ⟨hv, hz⟩ := hv
      have hZ := hZ.k hz
      refine cCells (cells' := u32.1 - S0.1) (slots' := u32.2.1 - S0.2.1) (by have e : S.1 = u32.1 := hz.1.1; show S.1 - S0.1 + 0 = _; omega) (by have e : S.2.1 = u32.2.1 := hz.1.2; show S.2.1 - S0.2.1 + 0 = _; omega) ?_
      rw [← hv] at hE hp
      dsimp only at hE hp
      exact B_Y1_perform_193a u32 ad x1 x2 x3 x4 x5 (f_Y5_top S ((grC S x0 1).getD 0)) r33 _ _ _ hE hp hZ hP hD hS (lv_sub hl [1, 2, 3, 4, 5, 6, 0] rfl)
    rw [if_neg s9] at hE hp
    have s9 := wNe (b := 9) rfl (by decide) s9
    by_cases s10 : x1 = 10
    · rw [if_pos s10] at hE hp
      refine lv_tableIn (off := 184) (tgt := 194) hx hb dX1_perform_10 (by rw [s10]; decide) (by rw [s10]; decide) (by rw [s10]; decide) (by decide) ?_
      refine lv_aload_n hx hb dX1_perform_194 rfl (lv_at hl 1 rfl) ?_
      refine lv_iload_n hx hb dX1_perform_195 rfl (lv_at hl 3 rfl) ?_
      obtain ⟨hy34, hp⟩ := hp
      obtain ⟨hy35, hp⟩ := hp
      refine cNoi (va_runS (As := [.ref (ad x0), .int x2]) (rest := []) ⟨hx, hb, hml, hown, hts⟩ (c_Y1_begin l G K ad S x0 (f_Y1_begin S x0 x2).2.1 (f_Y1_begin S x0 x2).2.2.1 x2 _) (va_cwS 2 hts (wGS t_ (mw (.methodLink RX1 62 yX1_begin) (List.mem_of_getElem? (i := 28) rfl)) (mw (.static yX1_begin) (List.mem_of_getElem? (i := 29) rfl)) (mw (.initialized RX1) (List.mem_of_getElem? (i := 23) rfl)) j_Y1_begin) rfl rfl rfl (by decide +kernel) ⟨Nat.le_of_ble_eq_true rfl, Nat.le_of_ble_eq_true rfl⟩) (cPS hK hTE hP hD ⟨⟨hy34.1.1, hy34.2.1⟩, (k_x0.n hZ.1), hy35⟩) rfl rfl hl.1 rfl (lv_room (Nat.le_of_ble_eq_true rfl)) dX1_perform_196 ⟨by show _ ≤ lc - S0.1; have := hZ.1.1.1; have := hy34.1; omega, by show _ ≤ ls - S0.2.1; have := hZ.1.1.2; have := hy34.2; omega⟩) hP hD hS hA (fun r37 u36 H locs hv hP hD hS => ?_)
      obtain ⟨hv, hz, ha⟩ := hv
      obtain ⟨hy38, hp⟩ := hp
      have e1 : (f_Y1_begin S x0 x2).2.1 = u36.1.1 := by rw [← hv]
      have e2 : (f_Y1_begin S x0 x2).2.2.1 = u36.1.2.1 := by rw [← hv]
      refine cCells (cells' := u36.1.1 - S0.1) (slots' := u36.1.2.1 - S0.2.1) (by have := hZ.1.1.1; have := hy34.1; omega) (by have := hZ.1.1.2; have := hy34.2; omega) ?_
      rw [← re_ad (r := (f_Y5_top S ((grC S x0 1).getD 0))) ha hy38] at hl
      rw [← ha x0 (k_x0.n hZ.1).1] at hl
      have hZ := hZ.n hz ha (by rw [← e1]; exact hy34.1.2) (by rw [← e2]; exact hy34.2.2)
      rw [← hv] at hE hp
      dsimp only at hE hp
      exact B_Y1_perform_199a u36.1 u36.2 x1 x2 x3 x4 x5 (f_Y5_top S ((grC S x0 1).getD 0)) r37 _ _ _ hE hp hZ hP hD hS (lv_sub hl [1, 2, 3, 4, 5, 6, 0] rfl)
    rw [if_neg s10] at hE hp
    have s10 := wNe (b := 10) rfl (by decide) s10
    by_cases s11 : x1 = 11
    · rw [if_pos s11] at hE hp
      refine lv_tableIn (off := 190) (tgt := 200) hx hb dX1_perform_10 (by rw [s11]; decide) (by rw [s11]; decide) (by rw [s11]; decide) (by decide) ?_
      refine lv_aload_n hx hb dX1_perform_200 rfl (lv_at hl 1 rfl) ?_
      refine lv_iload_n hx hb dX1_perform_201 rfl (lv_at hl 3 rfl) ?_
      refine lv_iload_n hx hb dX1_perform_202 rfl (lv_at hl 4 rfl) ?_
      obtain ⟨hy39, hp⟩ := hp
      refine cGoi (va_runS (As := [.ref (ad x0), .int x2, .int x3]) (rest := []) ⟨hx, hb, hml, hown, hts⟩ (c_Y1_setSpan l G K ad S x0 x2 x3 _) (va_cwS 3 hts (wGS t_ (mw (.methodLink RX1 66 yX1_setSpan) (List.mem_of_getElem? (i := 30) rfl)) (mw (.static yX1_setSpan) (List.mem_of_getElem? (i := 31) rfl)) (mw (.initialized RX1) (List.mem_of_getElem? (i := 23) rfl)) j_Y1_setSpan) rfl rfl rfl (by decide +kernel) ⟨Nat.le_of_ble_eq_true rfl, Nat.le_of_ble_eq_true rfl⟩) (cPS hK hTE hP hD ⟨(k_x0.n hZ.1), hy39⟩) rfl rfl hl.1 rfl (lv_room (Nat.le_of_ble_eq_true rfl)) dX1_perform_203 ⟨(show S.1 - S0.1 ≤ lc - S0.1 from Nat.sub_le_sub_right hZ.2.2.1 _), (show S.2.1 - S0.2.1 ≤ ls - S0.2.1 from Nat.sub_le_sub_right hZ.2.2.2 _)⟩) hP hD hS hA (fun r41 u40 H locs hv hP hD hS => ?_)
      obtain ⟨hv, hz⟩ := hv
      have hZ := hZ.k hz
      refine cCells (cells' := u40.1 - S0.1) (slots' := u40.2.1 - S0.2.1) (by have e : S.1 = u40.1 := hz.1.1; show S.1 - S0.1 + 0 = _; omega) (by have e : S.2.1 = u40.2.1 := hz.1.2; show S.2.1 - S0.2.1 + 0 = _; omega) ?_
      rw [← hv] at hE hp
      dsimp only at hE hp
      exact B_Y1_perform_206a u40 ad x1 x2 x3 x4 x5 (f_Y5_top S ((grC S x0 1).getD 0)) r41 _ _ _ hE hp hZ hP hD hS (lv_sub hl [1, 2, 3, 4, 5, 6, 0] rfl)
    rw [if_neg s11] at hE hp
    have s11 := wNe (b := 11) rfl (by decide) s11
    by_cases s12 : x1 = 12
    · rw [if_pos s12] at hE hp
      refine lv_tableIn (off := 197) (tgt := 207) hx hb dX1_perform_10 (by rw [s12]; decide) (by rw [s12]; decide) (by rw [s12]; decide) (by decide) ?_
      refine lv_aload_n hx hb dX1_perform_207 rfl (lv_at hl 1 rfl) ?_
      refine lv_iload_n hx hb dX1_perform_208 rfl (lv_at hl 3 rfl) ?_
      refine lv_iload_n hx hb dX1_perform_209 rfl (lv_at hl 4 rfl) ?_
      refine lv_iload hx hb dX1_perform_210 (lv_at hl 5 rfl) ?_
      refine lv_iload hx hb dX1_perform_212 (lv_at hl 6 rfl) ?_
      obtain ⟨hy42, hp⟩ := hp
      refine cGoi (va_runS (As := [.ref (ad x0), .int x2, .int x3, .int x4, .int x5]) (rest := []) ⟨hx, hb, hml, hown, hts⟩ (c_Y1_addWords l G K ad S x0 x2 x3 x4 x5 _) (va_cwS 5 hts (wGS t_ (mw (.methodLink RX1 70 yX1_addWords) (List.mem_of_getElem? (i := 32) rfl)) (mw (.static yX1_addWords) (List.mem_of_getElem? (i := 33) rfl)) (mw (.initialized RX1) (List.mem_of_getElem? (i := 23) rfl)) j_Y1_addWords) rfl rfl rfl (by decide +kernel) ⟨Nat.le_of_ble_eq_true rfl, Nat.le_of_ble_eq_true rfl⟩) (cPS hK hTE hP hD ⟨(k_x0.n hZ.1), hy42⟩) rfl rfl hl.1 rfl (lv_room (Nat.le_of_ble_eq_true rfl)) dX1_perform_214 ⟨(show S.1 - S0.1 ≤ lc - S0.1 from Nat.sub_le_sub_right hZ.2.2.1 _), (show S.2.1 - S0.2.1 ≤ ls - S0.2.1 from Nat.sub_le_sub_right hZ.2.2.2 _)⟩) hP hD hS hA (fun r44 u43 H locs hv hP hD hS => ?_)
      obtain ⟨hv, hz⟩ := hv
      have hZ := hZ.k hz
      refine cCells (cells' := u43.1 - S0.1) (slots' := u43.2.1 - S0.2.1) (by have e : S.1 = u43.1 := hz.1.1; show S.1 - S0.1 + 0 = _; omega) (by have e : S.2.1 = u43.2.1 := hz.1.2; show S.2.1 - S0.2.1 + 0 = _; omega) ?_
      rw [← hv] at hE hp
      dsimp only at hE hp
      exact B_Y1_perform_217a u43 ad x1 x2 x3 x4 x5 (f_Y5_top S ((grC S x0 1).getD 0)) r44 _ _ _ hE hp hZ hP hD hS (lv_sub hl [1, 2, 3, 4, 5, 6, 0] rfl)
    rw [if_neg s12] at hE hp
    have s12 := wNe (b := 12) rfl (by decide) s12
    by_cases s13 : x1 = 13
    · rw [if_pos s13] at hE hp
      refine lv_tableIn (off := 208) (tgt := 218) hx hb dX1_perform_10 (by rw [s13]; decide) (by rw [s13]; decide) (by rw [s13]; decide) (by decide) ?_
      refine lv_aload_n hx hb dX1_perform_218 rfl (lv_at hl 1 rfl) ?_
      refine lv_iload_n hx hb dX1_perform_219 rfl (lv_at hl 3 rfl) ?_
      obtain ⟨hy45, hp⟩ := hp
      refine cGoi (va_runS (As := [.ref (ad x0), .int x2]) (rest := []) ⟨hx, hb, hml, hown, hts⟩ (c_Y1_layDown l G K ad S x0 x2 _) (va_cwS 2 hts (wGS t_ (mw (.methodLink RX1 74 yX1_layDown) (List.mem_of_getElem? (i := 34) rfl)) (mw (.static yX1_layDown) (List.mem_of_getElem? (i := 35) rfl)) (mw (.initialized RX1) (List.mem_of_getElem? (i := 23) rfl)) j_Y1_layDown) rfl rfl rfl (by decide +kernel) ⟨Nat.le_of_ble_eq_true rfl, Nat.le_of_ble_eq_true rfl⟩) (cPS hK hTE hP hD ⟨(k_x0.n hZ.1), hy45⟩) rfl rfl hl.1 rfl (lv_room (Nat.le_of_ble_eq_true rfl)) dX1_perform_220 ⟨(show S.1 - S0.1 ≤ lc - S0.1 from Nat.sub_le_sub_right hZ.2.2.1 _), (show S.2.1 - S0.2.1 ≤ ls - S0.2.1 from Nat.sub_le_sub_right hZ.2.2.2 _)⟩) hP hD hS hA (fun r47 u46 H locs hv hP hD hS => ?_)
      obtain ⟨hv, hz⟩ := hv
      have hZ := hZ.k hz
      refine cCells (cells' := u46.1 - S0.1) (slots' := u46.2.1 - S0.2.1) (by have e : S.1 = u46.1 := hz.1.1; show S.1 - S0.1 + 0 = _; omega) (by have e : S.2.1 = u46.2.1 := hz.1.2; show S.2.1 - S0.2.1 + 0 = _; omega) ?_
      rw [← hv] at hE hp
      dsimp only at hE hp
      exact B_Y1_perform_223a u46 ad x1 x2 x3 x4 x5 (f_Y5_top S ((grC S x0 1).getD 0)) r47 _ _ _ hE hp hZ hP hD hS (lv_sub hl [1, 2, 3, 4, 5, 6, 0] rfl)
    rw [if_neg s13] at hE hp
    have s13 := wNe (b := 13) rfl (by decide) s13
    by_cases s14 : x1 = 14
    · rw [if_pos s14] at hE hp
      refine lv_tableIn (off := 214) (tgt := 224) hx hb dX1_perform_10 (by rw [s14]; decide) (by rw [s14]; decide) (by rw [s14]; decide) (by decide) ?_
      refine lv_aload_n hx hb dX1_perform_224 rfl (lv_at hl 1 rfl) ?_
      refine lv_iload_n hx hb dX1_perform_225 rfl (lv_at hl 3 rfl) ?_
      obtain ⟨hy48, hp⟩ := hp
      refine cGoi (va_runS (As := [.ref (ad x0), .int x2]) (rest := []) ⟨hx, hb, hml, hown, hts⟩ (c_Y1_takeUp l G K ad S x0 x2 _) (va_cwS 2 hts (wGS t_ (mw (.methodLink RX1 77 yX1_takeUp) (List.mem_of_getElem? (i := 36) rfl)) (mw (.static yX1_takeUp) (List.mem_of_getElem? (i := 37) rfl)) (mw (.initialized RX1) (List.mem_of_getElem? (i := 23) rfl)) j_Y1_takeUp) rfl rfl rfl (by decide +kernel) ⟨Nat.le_of_ble_eq_true rfl, Nat.le_of_ble_eq_true rfl⟩) (cPS hK hTE hP hD ⟨(k_x0.n hZ.1), hy48⟩) rfl rfl hl.1 rfl (lv_room (Nat.le_of_ble_eq_true rfl)) dX1_perform_226 ⟨(show S.1 - S0.1 ≤ lc - S0.1 from Nat.sub_le_sub_right hZ.2.2.1 _), (show S.2.1 - S0.2.1 ≤ ls - S0.2.1 from Nat.sub_le_sub_right hZ.2.2.2 _)⟩) hP hD hS hA (fun r50 u49 H locs hv hP hD hS => ?_)
      obtain ⟨hv, hz⟩ := hv
      have hZ := hZ.k hz
      refine cCells (cells' := u49.1 - S0.1) (slots' := u49.2.1 - S0.2.1) (by have e : S.1 = u49.1 := hz.1.1; show S.1 - S0.1 + 0 = _; omega) (by have e : S.2.1 = u49.2.1 := hz.1.2; show S.2.1 - S0.2.1 + 0 = _; omega) ?_
      rw [← hv] at hE hp
      dsimp only at hE hp
      exact B_Y1_perform_229a u49 ad x1 x2 x3 x4 x5 (f_Y5_top S ((grC S x0 1).getD 0)) r50 _ _ _ hE hp hZ hP hD hS (lv_sub hl [1, 2, 3, 4, 5, 6, 0] rfl)
    rw [if_neg s14] at hE hp
    have s14 := wNe (b := 14) rfl (by decide) s14
    by_cases s15 : x1 = 15
    · rw [if_pos s15] at hE hp
      refine lv_tableIn (off := 220) (tgt := 230) hx hb dX1_perform_10 (by rw [s15]; decide) (by rw [s15]; decide) (by rw [s15]; decide) (by decide) ?_
      refine lv_aload_n hx hb dX1_perform_230 rfl (lv_at hl 1 rfl) ?_
      refine lv_iload_n hx hb dX1_perform_231 rfl (lv_at hl 3 rfl) ?_
      obtain ⟨hy51, hp⟩ := hp
      refine cGoi (va_runS (As := [.ref (ad x0), .int x2]) (rest := []) ⟨hx, hb, hml, hown, hts⟩ (c_Y1_bringUp l G K ad S x0 x2 _) (va_cwS 2 hts (wGS t_ (mw (.methodLink RX1 80 yX1_bringUp) (List.mem_of_getElem? (i := 38) rfl)) (mw (.static yX1_bringUp) (List.mem_of_getElem? (i := 39) rfl)) (mw (.initialized RX1) (List.mem_of_getElem? (i := 23) rfl)) j_Y1_bringUp) rfl rfl rfl (by decide +kernel) ⟨Nat.le_of_ble_eq_true rfl, Nat.le_of_ble_eq_true rfl⟩) (cPS hK hTE hP hD ⟨(k_x0.n hZ.1), hy51⟩) rfl rfl hl.1 rfl (lv_room (Nat.le_of_ble_eq_true rfl)) dX1_perform_232 ⟨(show S.1 - S0.1 ≤ lc - S0.1 from Nat.sub_le_sub_right hZ.2.2.1 _), (show S.2.1 - S0.2.1 ≤ ls - S0.2.1 from Nat.sub_le_sub_right hZ.2.2.2 _)⟩) hP hD hS hA (fun r53 u52 H locs hv hP hD hS => ?_)
      obtain ⟨hv, hz⟩ := hv
      have hZ := hZ.k hz
      refine cCells (cells' := u52.1 - S0.1) (slots' := u52.2.1 - S0.2.1) (by have e : S.1 = u52.1 := hz.1.1; show S.1 - S0.1 + 0 = _; omega) (by have e : S.2.1 = u52.2.1 := hz.1.2; show S.2.1 - S0.2.1 + 0 = _; omega) ?_
      rw [← hv] at hE hp
      dsimp only at hE hp
      exact B_Y1_perform_235a u52 ad x1 x2 x3 x4 x5 (f_Y5_top S ((grC S x0 1).getD 0)) r53 _ _ _ hE hp hZ hP hD hS (lv_sub hl [1, 2, 3, 4, 5, 6, 0] rfl)
    rw [if_neg s15] at hE hp
    have s15 := wNe (b := 15) rfl (by decide) s15
    by_cases s16 : x1 = 16
    · rw [if_pos s16] at hE hp
      refine lv_tableIn (off := 226) (tgt := 236) hx hb dX1_perform_10 (by rw [s16]; decide) (by rw [s16]; decide) (by rw [s16]; decide) (by decide) ?_
      exact B_Y1_perform_236 S ad x1 x2 x3 x4 x5 (f_Y5_top S ((grC S x0 1).getD 0)) _ _ _ hE hp hZ hP hD hS (lv_sub hl [1, 2, 3, 4, 5, 6, 0] rfl)
    rw [if_neg s16] at hE hp
    have s16 := wNe (b := 16) rfl (by decide) s16
    by_cases s17 : x1 = 17
    · rw [if_pos s17] at hE hp
      refine lv_tableIn (off := 233) (tgt := 243) hx hb dX1_perform_10 (by rw [s17]; decide) (by rw [s17]; decide) (by rw [s17]; decide) (by decide) ?_
      refine cAload (ad := ad) (r := (f_Y5_top S ((grC S x0 1).getD 0))) hx hb dX1_perform_243 (lv_at hl 0 rfl) ?_
      refine cIfnonnull (ad := ad) (r := (f_Y5_top S ((grC S x0 1).getD 0))) (tgt := 252) hx hb dX1_perform_245 (by decide) (fun c57 => ?_) (fun c57 => ?_)
      · rw [if_pos c57] at hE hp
        refine lv_iconst (v := 0) hx hb dX1_perform_248 (by decide) ?_
        refine lv_goto (tgt := 259) hx hb dX1_perform_249 (by decide) ?_
        exact B_Y1_perform_259 S ad x1 x2 x3 x4 x5 (f_Y5_top S ((grC S x0 1).getD 0)) 0 _ _ _ hE hp hZ hP hD hS (lv_sub hl [1, 2, 3, 4, 5, 6, 0] rfl)
      · rw [if_neg c57] at hE hp
        refine cAload (ad := ad) (r := (f_Y5_top S ((grC S x0 1).getD 0))) hx hb dX1_perform_252 (lv_at hl 0 rfl) ?_
        refine lv_iload_n hx hb dX1_perform_254 rfl (lv_at hl 3 rfl) ?_
        refine lv_iload_n hx hb dX1_perform_255 rfl (lv_at hl 4 rfl) ?_
        obtain ⟨hy58, hp⟩ := hp
        refine cTop3 (r := (f_Y5_top S ((grC S x0 1).getD 0))) hy58.1 ?_
        obtain ⟨hy59, hp⟩ := hp
        refine cGoi (va_runV (As := [.int x2, .int x3]) (rest := []) ⟨hx, hb, hml, hown, hts⟩ (c_Y4_castVote l G K ad S ((f_Y5_top S ((grC S x0 1).getD 0)).getD 0) x2 x3 _) (cwV 2 hts (wGV t_ (mw (.methodLink RX1 87 yX4_castVote) (List.mem_of_getElem? (i := 42) rfl)) (mw (.instanceMethod yX4_castVote) (List.mem_of_getElem? (i := 43) rfl)) (mw (.selects RX4 yX4_castVote yX4_castVote) (List.mem_of_getElem? (i := 44) rfl)) (mw (.initialized RX4) (List.mem_of_getElem? (i := 45) rfl)) j_Y4_castVote) rfl rfl rfl (by decide +kernel) ⟨Nat.le_of_ble_eq_true rfl, Nat.le_of_ble_eq_true rfl⟩) (cPV hK hTE hP hD 3 rfl (at_3 hy58.2) ⟨hy58.2, hy59⟩) rfl rfl hl.1 rfl (lv_room (Nat.le_of_ble_eq_true rfl)) dX1_perform_256 ⟨(show S.1 - S0.1 ≤ lc - S0.1 from Nat.sub_le_sub_right hZ.2.2.1 _), (show S.2.1 - S0.2.1 ≤ ls - S0.2.1 from Nat.sub_le_sub_right hZ.2.2.2 _)⟩) hP hD hS hA (fun r61 u60 H locs hv hP hD hS => ?_)
        obtain ⟨hv, hz⟩ := hv
        have hZ := hZ.k hz
        refine cCells (cells' := u60.1 - S0.1) (slots' := u60.2.1 - S0.2.1) (by have e : S.1 = u60.1 := hz.1.1; show S.1 - S0.1 + 0 = _; omega) (by have e : S.2.1 = u60.2.1 := hz.1.2; show S.2.1 - S0.2.1 + 0 = _; omega) ?_
        rw [← hv] at hE hp
        dsimp only at hE hp
        exact B_Y1_perform_259 u60 ad x1 x2 x3 x4 x5 (f_Y5_top S ((grC S x0 1).getD 0)) r61 _ _ _ hE hp hZ hP hD hS (lv_sub hl [1, 2, 3, 4, 5, 6, 0] rfl)
    rw [if_neg s17] at hE hp
    have s17 := wNe (b := 17) rfl (by decide) s17
    by_cases s18 : x1 = 18
    · rw [if_pos s18] at hE hp
      refine lv_tableIn (off := 250) (tgt := 260) hx hb dX1_perform_10 (by rw [s18]; decide) (by rw [s18]; decide) (by rw [s18]; decide) (by decide) ?_
      refine lv_aload_n hx hb dX1_perform_260 rfl (lv_at hl 1 rfl) ?_
      refine lv_aload_n hx hb dX1_perform_261 rfl (lv_at hl 1 rfl) ?_
      refine va_get (D := G) (ci := 0) (v := va_re ad (grC S x0 1)) (C := RX0) (T := TX0) (N := 11) hx hb hts iX0 hown hK hP x0 (at_0 (k_x0.n hZ.1)) rfl 1 (by decide) (hw (.fieldLink RX1 9 "MotionFloor$Assembly" "pending" "LMotionFloor$Pile;") (List.mem_of_getElem? (i := 0) rfl)) (fun _ h9 => h9) rfl dX1_perform_262 ?_
      obtain ⟨hy62, hp⟩ := hp
      refine cTop (r := (grC S x0 1)) hy62.1 ?_
      obtain ⟨hy63, hp⟩ := hp
      refine cGov (va_runV (As := [.ref (ad ((grC S x0 1).getD 0))]) (rest := []) ⟨hx, hb, hml, hown, hts⟩ (c_Y0_dropTop l G K ad S x0 ((grC S x0 1).getD 0) _) (cwV 1 hts (wGV t_ (mw (.methodLink RX1 92 yX0_dropTop) (List.mem_of_getElem? (i := 46) rfl)) (mw (.instanceMethod yX0_dropTop) (List.mem_of_getElem? (i := 47) rfl)) (mw (.selects RX0 yX0_dropTop yX0_dropTop) (List.mem_of_getElem? (i := 48) rfl)) (mw (.initialized RX0) (List.mem_of_getElem? (i := 49) rfl)) j_Y0_dropTop) rfl rfl rfl (by decide +kernel) ⟨Nat.le_of_ble_eq_true rfl, Nat.le_of_ble_eq_true rfl⟩) (cPV hK hTE hP hD 0 rfl (at_0 (k_x0.n hZ.1)) ⟨(k_x0.n hZ.1), hy62.2, hy63⟩) rfl rfl hl.1 rfl (lv_room (Nat.le_of_ble_eq_true rfl)) dX1_perform_265 ⟨(show S.1 - S0.1 ≤ lc - S0.1 from Nat.sub_le_sub_right hZ.2.2.1 _), (show S.2.1 - S0.2.1 ≤ ls - S0.2.1 from Nat.sub_le_sub_right hZ.2.2.2 _)⟩) hP hD hS hA (fun u64 H locs hv hP hD hS => ?_)
      obtain ⟨hv, hz⟩ := hv
      have hZ := hZ.k hz
      refine cCells (cells' := u64.1 - S0.1) (slots' := u64.2.1 - S0.2.1) (by have e : S.1 = u64.1 := hz.1.1; show S.1 - S0.1 + 0 = _; omega) (by have e : S.2.1 = u64.2.1 := hz.1.2; show S.2.1 - S0.2.1 + 0 = _; omega) ?_
      rw [← hv] at hE hp
      dsimp only at hE hp
      exact B_Y1_perform_268a u64 ad x1 x2 x3 x4 x5 (f_Y5_top S ((grC S x0 1).getD 0)) _ _ _ hE hp hZ hP hD hS (lv_sub hl [1, 2, 3, 4, 5, 6, 0] rfl)
    rw [if_neg s18] at hE hp
    have s18 := wNe (b := 18) rfl (by decide) s18
    by_cases s19 : x1 = 19
    · rw [if_pos s19] at hE hp
      refine lv_tableIn (off := 266) (tgt := 276) hx hb dX1_perform_10 (by rw [s19]; decide) (by rw [s19]; decide) (by rw [s19]; decide) (by decide) ?_
      refine lv_aload_n hx hb dX1_perform_276 rfl (lv_at hl 1 rfl) ?_
      obtain ⟨hy67, hp⟩ := hp
      obtain ⟨hy68, hp⟩ := hp
      refine cNoi (va_runS (As := [.ref (ad x0)]) (rest := []) ⟨hx, hb, hml, hown, hts⟩ (c_Y1_putRuling l G K ad S x0 (f_Y1_putRuling S x0).2.1 (f_Y1_putRuling S x0).2.2.1 _) (va_cwS 1 hts (wGS t_ (mw (.methodLink RX1 99 yX1_putRuling) (List.mem_of_getElem? (i := 51) rfl)) (mw (.static yX1_putRuling) (List.mem_of_getElem? (i := 52) rfl)) (mw (.initialized RX1) (List.mem_of_getElem? (i := 23) rfl)) j_Y1_putRuling) rfl rfl rfl (by decide +kernel) ⟨Nat.le_of_ble_eq_true rfl, Nat.le_of_ble_eq_true rfl⟩) (cPS hK hTE hP hD ⟨⟨hy67.1.1, hy67.2.1⟩, (k_x0.n hZ.1), hy68⟩) rfl rfl hl.1 rfl (lv_room (Nat.le_of_ble_eq_true rfl)) dX1_perform_277 ⟨by show _ ≤ lc - S0.1; have := hZ.1.1.1; have := hy67.1; omega, by show _ ≤ ls - S0.2.1; have := hZ.1.1.2; have := hy67.2; omega⟩) hP hD hS hA (fun r70 u69 H locs hv hP hD hS => ?_)
      obtain ⟨hv, hz, ha⟩ := hv
      obtain ⟨hy71, hp⟩ := hp
      have e1 : (f_Y1_putRuling S x0).2.1 = u69.1.1 := by rw [← hv]
      have e2 : (f_Y1_putRuling S x0).2.2.1 = u69.1.2.1 := by rw [← hv]
      refine cCells (cells' := u69.1.1 - S0.1) (slots' := u69.1.2.1 - S0.2.1) (by have := hZ.1.1.1; have := hy67.1; omega) (by have := hZ.1.1.2; have := hy67.2; omega) ?_
      rw [← re_ad (r := (f_Y5_top S ((grC S x0 1).getD 0))) ha hy71] at hl
      rw [← ha x0 (k_x0.n hZ.1).1] at hl
      have hZ := hZ.n hz ha (by rw [← e1]; exact hy67.1.2) (by rw [← e2]; exact hy67.2.2)
      rw [← hv] at hE hp
      dsimp only at hE hp
      exact B_Y1_perform_280a u69.1 u69.2 x1 x2 x3 x4 x5 (f_Y5_top S ((grC S x0 1).getD 0)) r70 _ _ _ hE hp hZ hP hD hS (lv_sub hl [1, 2, 3, 4, 5, 6, 0] rfl)
    rw [if_neg s19] at hE hp
    have s19 := wNe (b := 19) rfl (by decide) s19
    by_cases s20 : x1 = 20
    · rw [if_pos s20] at hE hp
      refine lv_tableIn (off := 226) (tgt := 236) hx hb dX1_perform_10 (by rw [s20]; decide) (by rw [s20]; decide) (by rw [s20]; decide) (by decide) ?_
      exact B_Y1_perform_236 S ad x1 x2 x3 x4 x5 (f_Y5_top S ((grC S x0 1).getD 0)) _ _ _ hE hp hZ hP hD hS (lv_sub hl [1, 2, 3, 4, 5, 6, 0] rfl)
    rw [if_neg s20] at hE hp
    have s20 := wNe (b := 20) rfl (by decide) s20
    by_cases s21 : x1 = 21
    · rw [if_pos s21] at hE hp
      refine lv_tableIn (off := 271) (tgt := 281) hx hb dX1_perform_10 (by rw [s21]; decide) (by rw [s21]; decide) (by rw [s21]; decide) (by decide) ?_
      refine cAload (ad := ad) (r := (f_Y5_top S ((grC S x0 1).getD 0))) hx hb dX1_perform_281 (lv_at hl 0 rfl) ?_
      refine cIfnonnull (ad := ad) (r := (f_Y5_top S ((grC S x0 1).getD 0))) (tgt := 290) hx hb dX1_perform_283 (by decide) (fun c72 => ?_) (fun c72 => ?_)
      · rw [if_pos c72] at hE hp
        refine lv_iconst (v := 0) hx hb dX1_perform_286 (by decide) ?_
        refine lv_goto (tgt := 296) hx hb dX1_perform_287 (by decide) ?_
        exact B_Y1_perform_296 S ad x1 x2 x3 x4 x5 (f_Y5_top S ((grC S x0 1).getD 0)) 0 _ _ _ hE hp hZ hP hD hS (lv_sub hl [1, 2, 3, 4, 5, 6, 0] rfl)
      · rw [if_neg c72] at hE hp
        refine lv_aload_n hx hb dX1_perform_290 rfl (lv_at hl 1 rfl) ?_
        refine cAload (ad := ad) (r := (f_Y5_top S ((grC S x0 1).getD 0))) hx hb dX1_perform_291 (lv_at hl 0 rfl) ?_
        obtain ⟨hy73, hp⟩ := hp
        obtain ⟨hy74, hp⟩ := hp
        refine cNoi (va_runS (As := [.ref (ad x0), va_re ad (f_Y5_top S ((grC S x0 1).getD 0))]) (rest := []) ⟨hx, hb, hml, hown, hts⟩ (c_Y7_announce l G K ad S x0 (f_Y7_announce S x0 (f_Y5_top S ((grC S x0 1).getD 0))).2.1 (f_Y7_announce S x0 (f_Y5_top S ((grC S x0 1).getD 0))).2.2.1 (f_Y5_top S ((grC S x0 1).getD 0)) _) (va_cwS 2 hts (wGS t_ (mw (.methodLink RX1 103 yX7_announce) (List.mem_of_getElem? (i := 53) rfl)) (mw (.static yX7_announce) (List.mem_of_getElem? (i := 54) rfl)) (mw (.initialized RX7) (List.mem_of_getElem? (i := 55) rfl)) j_Y7_announce) rfl rfl rfl (by decide +kernel) ⟨Nat.le_of_ble_eq_true rfl, Nat.le_of_ble_eq_true rfl⟩) (cPS hK hTE hP hD ⟨⟨hy73.1.1, hy73.2.1⟩, (k_x0.n hZ.1), hy74⟩) rfl rfl hl.1 rfl (lv_room (Nat.le_of_ble_eq_true rfl)) dX1_perform_293 ⟨by show _ ≤ lc - S0.1; have := hZ.1.1.1; have := hy73.1; omega, by show _ ≤ ls - S0.2.1; have := hZ.1.1.2; have := hy73.2; omega⟩) hP hD hS hA (fun r76 u75 H locs hv hP hD hS => ?_)
        obtain ⟨hv, hz, ha⟩ := hv
        obtain ⟨hy77, hp⟩ := hp
        have e1 : (f_Y7_announce S x0 (f_Y5_top S ((grC S x0 1).getD 0))).2.1 = u75.1.1 := by rw [← hv]
        have e2 : (f_Y7_announce S x0 (f_Y5_top S ((grC S x0 1).getD 0))).2.2.1 = u75.1.2.1 := by rw [← hv]
        refine cCells (cells' := u75.1.1 - S0.1) (slots' := u75.1.2.1 - S0.2.1) (by have := hZ.1.1.1; have := hy73.1; omega) (by have := hZ.1.1.2; have := hy73.2; omega) ?_
        rw [← re_ad (r := (f_Y5_top S ((grC S x0 1).getD 0))) ha hy77] at hl
        rw [← ha x0 (k_x0.n hZ.1).1] at hl
        have hZ := hZ.n hz ha (by rw [← e1]; exact hy73.1.2) (by rw [← e2]; exact hy73.2.2)
        rw [← hv] at hE hp
        dsimp only at hE hp
        exact B_Y1_perform_296 u75.1 u75.2 x1 x2 x3 x4 x5 (f_Y5_top S ((grC S x0 1).getD 0)) r76 _ _ _ hE hp hZ hP hD hS (lv_sub hl [1, 2, 3, 4, 5, 6, 0] rfl)
    rw [if_neg s21] at hE hp
    have s21 := wNe (b := 21) rfl (by decide) s21
    by_cases s22 : x1 = 22
    · rw [if_pos s22] at hE hp
      refine lv_tableIn (off := 287) (tgt := 297) hx hb dX1_perform_10 (by rw [s22]; decide) (by rw [s22]; decide) (by rw [s22]; decide) (by decide) ?_
      refine lv_aload_n hx hb dX1_perform_297 rfl (lv_at hl 1 rfl) ?_
      obtain ⟨hy78, hp⟩ := hp
      refine cGoi (va_runS (As := [.ref (ad x0)]) (rest := []) ⟨hx, hb, hml, hown, hts⟩ (c_Y1_endSitting l G K ad S x0 _) (va_cwS 1 hts (wGS t_ (mw (.methodLink RX1 109 yX1_endSitting) (List.mem_of_getElem? (i := 56) rfl)) (mw (.static yX1_endSitting) (List.mem_of_getElem? (i := 57) rfl)) (mw (.initialized RX1) (List.mem_of_getElem? (i := 23) rfl)) j_Y1_endSitting) rfl rfl rfl (by decide +kernel) ⟨Nat.le_of_ble_eq_true rfl, Nat.le_of_ble_eq_true rfl⟩) (cPS hK hTE hP hD ⟨(k_x0.n hZ.1), hy78⟩) rfl rfl hl.1 rfl (lv_room (Nat.le_of_ble_eq_true rfl)) dX1_perform_298 ⟨(show S.1 - S0.1 ≤ lc - S0.1 from Nat.sub_le_sub_right hZ.2.2.1 _), (show S.2.1 - S0.2.1 ≤ ls - S0.2.1 from Nat.sub_le_sub_right hZ.2.2.2 _)⟩) hP hD hS hA (fun r80 u79 H locs hv hP hD hS => ?_)
      obtain ⟨hv, hz⟩ := hv
      have hZ := hZ.k hz
      refine cCells (cells' := u79.1 - S0.1) (slots' := u79.2.1 - S0.2.1) (by have e : S.1 = u79.1 := hz.1.1; show S.1 - S0.1 + 0 = _; omega) (by have e : S.2.1 = u79.2.1 := hz.1.2; show S.2.1 - S0.2.1 + 0 = _; omega) ?_
      rw [← hv] at hE hp
      dsimp only at hE hp
      exact B_Y1_perform_301a u79 ad x1 x2 x3 x4 x5 (f_Y5_top S ((grC S x0 1).getD 0)) r80 _ _ _ hE hp hZ hP hD hS (lv_sub hl [1, 2, 3, 4, 5, 6, 0] rfl)
    rw [if_neg s22] at hE hp
    have s22 := wNe (b := 22) rfl (by decide) s22
    refine lv_tableOut (tgt := 302) hx hb dX1_perform_10 (by omega) (by decide) ?_
    refine lv_iconst (v := 0) hx hb dX1_perform_302 (by decide) ?_
    refine W.widen (k := lc - S0.1) (n := ls - S0.2.1) (show S.1 - S0.1 ≤ lc - S0.1 from Nat.sub_le_sub_right hZ.2.2.1 _) (show S.2.1 - S0.2.1 ≤ ls - S0.2.1 from Nat.sub_le_sub_right hZ.2.2.2 _) ?_
    subst hQ
    exact W.iret (v := (0 : Int32)) hx hb hr (fun t ht hW => ⟨⟨(0 : Int32), (S, ad), rfl, ⟨hE.trans hX.symm, hZ.1, hZ.2.1⟩, by rw [ht]; exact hP, hD⟩, hS.F ht⟩) hS.2.2 dX1_perform_303
  exact cCells (Nat.sub_self _).symm (Nat.sub_self _).symm (B_M S0 ad0 a1 a2 a3 a4 a5 _ _ _ hX hp (nH.rf S0 ad0 k_l) hP hD hS hl)
theorem gdX0_enact_22 : ckS (List.drop 22 cX0_enact.data.toList) 22 [(22, .aload_n 0, 1), (23, .getfield 73, 3), (26, .ineg, 1), (27, .ireturn, 1), (39, .istore 6, 2), (41, .aload_n 0, 1), (42, .getfield 41, 3), (45, .invokevirtual 166, 3), (48, .aload_n 0, 1), (49, .getfield 41, 3), (52, .iconst 0, 1), (53, .iload_n 1, 1), (54, .invokevirtual 169, 3), (57, .aload_n 0, 1), (58, .getfield 41, 3), (61, .iconst 1, 1), (62, .iload_n 2, 1), (63, .invokevirtual 169, 3), (66, .aload_n 0, 1), (67, .getfield 41, 3), (70, .iconst 2, 1), (71, .iload_n 3, 1), (72, .invokevirtual 169, 3), (75, .aload_n 0, 1), (76, .getfield 41, 3), (79, .iconst 3, 1), (80, .iload 4, 2), (82, .invokevirtual 169, 3), (85, .aload_n 0, 1), (86, .getfield 41, 3), (89, .iconst 4, 1), (90, .iload 5, 2), (92, .invokevirtual 169, 3), (95, .aload_n 0, 1), (96, .getfield 41, 3), (99, .iconst 5, 1), (100, .iload 6, 2), (102, .invokevirtual 169, 3), (105, .aload_n 0, 1), (106, .getfield 41, 3)] = true := by decide +kernel
theorem dX0_enact_22 : decode cX0_enact 22 = .ok (.aload_n 0, 1) := ckS_g gdX0_enact_22 0 rfl
theorem dX0_enact_23 : decode cX0_enact 23 = .ok (.getfield 73, 3) := ckS_g gdX0_enact_22 1 rfl
theorem dX0_enact_26 : decode cX0_enact 26 = .ok (.ineg, 1) := ckS_g gdX0_enact_22 2 rfl
theorem dX0_enact_27 : decode cX0_enact 27 = .ok (.ireturn, 1) := ckS_g gdX0_enact_22 3 rfl
theorem dX0_enact_39 : decode cX0_enact 39 = .ok (.istore 6, 2) := ckS_g gdX0_enact_22 4 rfl
theorem dX0_enact_41 : decode cX0_enact 41 = .ok (.aload_n 0, 1) := ckS_g gdX0_enact_22 5 rfl
theorem dX0_enact_42 : decode cX0_enact 42 = .ok (.getfield 41, 3) := ckS_g gdX0_enact_22 6 rfl
theorem dX0_enact_45 : decode cX0_enact 45 = .ok (.invokevirtual 166, 3) := ckS_g gdX0_enact_22 7 rfl
theorem dX0_enact_48 : decode cX0_enact 48 = .ok (.aload_n 0, 1) := ckS_g gdX0_enact_22 8 rfl
theorem dX0_enact_49 : decode cX0_enact 49 = .ok (.getfield 41, 3) := ckS_g gdX0_enact_22 9 rfl
theorem dX0_enact_52 : decode cX0_enact 52 = .ok (.iconst 0, 1) := ckS_g gdX0_enact_22 10 rfl
theorem dX0_enact_53 : decode cX0_enact 53 = .ok (.iload_n 1, 1) := ckS_g gdX0_enact_22 11 rfl
theorem dX0_enact_54 : decode cX0_enact 54 = .ok (.invokevirtual 169, 3) := ckS_g gdX0_enact_22 12 rfl
theorem dX0_enact_57 : decode cX0_enact 57 = .ok (.aload_n 0, 1) := ckS_g gdX0_enact_22 13 rfl
theorem dX0_enact_58 : decode cX0_enact 58 = .ok (.getfield 41, 3) := ckS_g gdX0_enact_22 14 rfl
theorem dX0_enact_61 : decode cX0_enact 61 = .ok (.iconst 1, 1) := ckS_g gdX0_enact_22 15 rfl
theorem dX0_enact_62 : decode cX0_enact 62 = .ok (.iload_n 2, 1) := ckS_g gdX0_enact_22 16 rfl
theorem dX0_enact_63 : decode cX0_enact 63 = .ok (.invokevirtual 169, 3) := ckS_g gdX0_enact_22 17 rfl
theorem dX0_enact_66 : decode cX0_enact 66 = .ok (.aload_n 0, 1) := ckS_g gdX0_enact_22 18 rfl
theorem dX0_enact_67 : decode cX0_enact 67 = .ok (.getfield 41, 3) := ckS_g gdX0_enact_22 19 rfl
theorem dX0_enact_70 : decode cX0_enact 70 = .ok (.iconst 2, 1) := ckS_g gdX0_enact_22 20 rfl
theorem dX0_enact_71 : decode cX0_enact 71 = .ok (.iload_n 3, 1) := ckS_g gdX0_enact_22 21 rfl
theorem dX0_enact_72 : decode cX0_enact 72 = .ok (.invokevirtual 169, 3) := ckS_g gdX0_enact_22 22 rfl
theorem dX0_enact_75 : decode cX0_enact 75 = .ok (.aload_n 0, 1) := ckS_g gdX0_enact_22 23 rfl
theorem dX0_enact_76 : decode cX0_enact 76 = .ok (.getfield 41, 3) := ckS_g gdX0_enact_22 24 rfl
theorem dX0_enact_79 : decode cX0_enact 79 = .ok (.iconst 3, 1) := ckS_g gdX0_enact_22 25 rfl
theorem dX0_enact_80 : decode cX0_enact 80 = .ok (.iload 4, 2) := ckS_g gdX0_enact_22 26 rfl
theorem dX0_enact_82 : decode cX0_enact 82 = .ok (.invokevirtual 169, 3) := ckS_g gdX0_enact_22 27 rfl
theorem dX0_enact_85 : decode cX0_enact 85 = .ok (.aload_n 0, 1) := ckS_g gdX0_enact_22 28 rfl
theorem dX0_enact_86 : decode cX0_enact 86 = .ok (.getfield 41, 3) := ckS_g gdX0_enact_22 29 rfl
theorem dX0_enact_89 : decode cX0_enact 89 = .ok (.iconst 4, 1) := ckS_g gdX0_enact_22 30 rfl
theorem dX0_enact_90 : decode cX0_enact 90 = .ok (.iload 5, 2) := ckS_g gdX0_enact_22 31 rfl
theorem dX0_enact_92 : decode cX0_enact 92 = .ok (.invokevirtual 169, 3) := ckS_g gdX0_enact_22 32 rfl
theorem dX0_enact_95 : decode cX0_enact 95 = .ok (.aload_n 0, 1) := ckS_g gdX0_enact_22 33 rfl
theorem dX0_enact_96 : decode cX0_enact 96 = .ok (.getfield 41, 3) := ckS_g gdX0_enact_22 34 rfl
theorem dX0_enact_99 : decode cX0_enact 99 = .ok (.iconst 5, 1) := ckS_g gdX0_enact_22 35 rfl
theorem dX0_enact_100 : decode cX0_enact 100 = .ok (.iload 6, 2) := ckS_g gdX0_enact_22 36 rfl
theorem dX0_enact_102 : decode cX0_enact 102 = .ok (.invokevirtual 169, 3) := ckS_g gdX0_enact_22 37 rfl
theorem dX0_enact_105 : decode cX0_enact 105 = .ok (.aload_n 0, 1) := ckS_g gdX0_enact_22 38 rfl
theorem dX0_enact_106 : decode cX0_enact 106 = .ok (.getfield 41, 3) := ckS_g gdX0_enact_22 39 rfl
theorem gdX0_enact_109 : ckS (List.drop 109 cX0_enact.data.toList) 109 [(109, .bipush 6, 2), (111, .aload_n 0, 1), (112, .getfield 21, 3), (115, .getfield 96, 3), (118, .invokevirtual 169, 3), (121, .iload 6, 2), (123, .ireturn, 1)] = true := by decide +kernel
theorem dX0_enact_109 : decode cX0_enact 109 = .ok (.bipush 6, 2) := ckS_g gdX0_enact_109 0 rfl
theorem dX0_enact_111 : decode cX0_enact 111 = .ok (.aload_n 0, 1) := ckS_g gdX0_enact_109 1 rfl
theorem dX0_enact_112 : decode cX0_enact 112 = .ok (.getfield 21, 3) := ckS_g gdX0_enact_109 2 rfl
theorem dX0_enact_115 : decode cX0_enact 115 = .ok (.getfield 96, 3) := ckS_g gdX0_enact_109 3 rfl
theorem dX0_enact_118 : decode cX0_enact 118 = .ok (.invokevirtual 169, 3) := ckS_g gdX0_enact_109 4 rfl
theorem dX0_enact_121 : decode cX0_enact 121 = .ok (.iload 6, 2) := ckS_g gdX0_enact_109 5 rfl
theorem dX0_enact_123 : decode cX0_enact 123 = .ok (.ireturn, 1) := ckS_g gdX0_enact_109 6 rfl
set_option maxRecDepth 100000 in
theorem zc685 : wZ (.methodLink RX0 169 yX3_write) := ⟨wT4 (List.mem_of_getElem? (i := 27) (by decide +kernel)), Or.inl rfl⟩
set_option maxRecDepth 100000 in
theorem zc686 : wZ (.methodLink RX0 166 yX3_open) := ⟨wT4 (List.mem_of_getElem? (i := 26) (by decide +kernel)), Or.inl rfl⟩
set_option maxRecDepth 100000 in
theorem zc687 : wZ (.static yX1_perform) := ⟨wT2 (List.mem_of_getElem? (i := 195) (by decide +kernel)), Or.inl rfl⟩
set_option maxRecDepth 100000 in
theorem zc688 : wZ (.methodLink RX0 161 yX1_perform) := ⟨wT2 (List.mem_of_getElem? (i := 194) (by decide +kernel)), Or.inl rfl⟩
set_option maxRecDepth 100000 in
theorem zc689 : wZ (.methodLink RX0 155 yX8_against) := ⟨wT2 (List.mem_of_getElem? (i := 49) (by decide +kernel)), Or.inl rfl⟩
set_option maxRecDepth 100000 in
theorem zc690 : wZ (.code yX0_enact cX0_enact 7 (some .int)) := ⟨wT2 (List.mem_of_getElem? (i := 48) rfl), Or.inl rfl⟩
def b_Y0_enact_121a (S : Cst) (x0 : Nat) (x1 : Int32) (x2 : Int32) (x3 : Int32) (x4 : Int32) (x5 : Int32) (x6 : Int32) : Int32 × Cst := (x6, S)
def q_Y0_enact_121a (S : Cst) (x0 : Nat) (lc : Nat) (ls : Nat) (x1 : Int32) (x2 : Int32) (x3 : Int32) (x4 : Int32) (x5 : Int32) (x6 : Int32) : Prop := True
def b_Y0_enact_105a (S : Cst) (x0 : Nat) (x1 : Int32) (x2 : Int32) (x3 : Int32) (x4 : Int32) (x5 : Int32) (x6 : Int32) : Int32 × Cst := (b_Y0_enact_121a ((f_Y3_write S ((grC S x0 4).getD 0) (6 : Int32) (giC S ((grC S x0 1).getD 0) 1)).2) x0 x1 x2 x3 x4 x5 x6)
def q_Y0_enact_105a (S : Cst) (x0 : Nat) (lc : Nat) (ls : Nat) (x1 : Int32) (x2 : Int32) (x3 : Int32) (x4 : Int32) (x5 : Int32) (x6 : Int32) : Prop := (iR S (grC S x0 1) 4) ∧ (iR S (grC S x0 4) 2) ∧ (p_Y3_write S ((grC S x0 4).getD 0) (6 : Int32) (giC S ((grC S x0 1).getD 0) 1)) ∧ (q_Y0_enact_121a ((f_Y3_write S ((grC S x0 4).getD 0) (6 : Int32) (giC S ((grC S x0 1).getD 0) 1)).2) x0 lc ls x1 x2 x3 x4 x5 x6)
def b_Y0_enact_95a (S : Cst) (x0 : Nat) (x1 : Int32) (x2 : Int32) (x3 : Int32) (x4 : Int32) (x5 : Int32) (x6 : Int32) : Int32 × Cst := (b_Y0_enact_105a ((f_Y3_write S ((grC S x0 4).getD 0) (5 : Int32) x6).2) x0 x1 x2 x3 x4 x5 x6)
def q_Y0_enact_95a (S : Cst) (x0 : Nat) (lc : Nat) (ls : Nat) (x1 : Int32) (x2 : Int32) (x3 : Int32) (x4 : Int32) (x5 : Int32) (x6 : Int32) : Prop := (iR S (grC S x0 4) 2) ∧ (p_Y3_write S ((grC S x0 4).getD 0) (5 : Int32) x6) ∧ (q_Y0_enact_105a ((f_Y3_write S ((grC S x0 4).getD 0) (5 : Int32) x6).2) x0 lc ls x1 x2 x3 x4 x5 x6)
def b_Y0_enact_85a (S : Cst) (x0 : Nat) (x1 : Int32) (x2 : Int32) (x3 : Int32) (x4 : Int32) (x5 : Int32) (x6 : Int32) : Int32 × Cst := (b_Y0_enact_95a ((f_Y3_write S ((grC S x0 4).getD 0) (4 : Int32) x5).2) x0 x1 x2 x3 x4 x5 x6)
def q_Y0_enact_85a (S : Cst) (x0 : Nat) (lc : Nat) (ls : Nat) (x1 : Int32) (x2 : Int32) (x3 : Int32) (x4 : Int32) (x5 : Int32) (x6 : Int32) : Prop := (iR S (grC S x0 4) 2) ∧ (p_Y3_write S ((grC S x0 4).getD 0) (4 : Int32) x5) ∧ (q_Y0_enact_95a ((f_Y3_write S ((grC S x0 4).getD 0) (4 : Int32) x5).2) x0 lc ls x1 x2 x3 x4 x5 x6)
def b_Y0_enact_75a (S : Cst) (x0 : Nat) (x1 : Int32) (x2 : Int32) (x3 : Int32) (x4 : Int32) (x5 : Int32) (x6 : Int32) : Int32 × Cst := (b_Y0_enact_85a ((f_Y3_write S ((grC S x0 4).getD 0) (3 : Int32) x4).2) x0 x1 x2 x3 x4 x5 x6)
def q_Y0_enact_75a (S : Cst) (x0 : Nat) (lc : Nat) (ls : Nat) (x1 : Int32) (x2 : Int32) (x3 : Int32) (x4 : Int32) (x5 : Int32) (x6 : Int32) : Prop := (iR S (grC S x0 4) 2) ∧ (p_Y3_write S ((grC S x0 4).getD 0) (3 : Int32) x4) ∧ (q_Y0_enact_85a ((f_Y3_write S ((grC S x0 4).getD 0) (3 : Int32) x4).2) x0 lc ls x1 x2 x3 x4 x5 x6)
def b_Y0_enact_66a (S : Cst) (x0 : Nat) (x1 : Int32) (x2 : Int32) (x3 : Int32) (x4 : Int32) (x5 : Int32) (x6 : Int32) : Int32 × Cst := (b_Y0_enact_75a ((f_Y3_write S ((grC S x0 4).getD 0) (2 : Int32) x3).2) x0 x1 x2 x3 x4 x5 x6)
def q_Y0_enact_66a (S : Cst) (x0 : Nat) (lc : Nat) (ls : Nat) (x1 : Int32) (x2 : Int32) (x3 : Int32) (x4 : Int32) (x5 : Int32) (x6 : Int32) : Prop := (iR S (grC S x0 4) 2) ∧ (p_Y3_write S ((grC S x0 4).getD 0) (2 : Int32) x3) ∧ (q_Y0_enact_75a ((f_Y3_write S ((grC S x0 4).getD 0) (2 : Int32) x3).2) x0 lc ls x1 x2 x3 x4 x5 x6)
def b_Y0_enact_57a (S : Cst) (x0 : Nat) (x1 : Int32) (x2 : Int32) (x3 : Int32) (x4 : Int32) (x5 : Int32) (x6 : Int32) : Int32 × Cst := (b_Y0_enact_66a ((f_Y3_write S ((grC S x0 4).getD 0) (1 : Int32) x2).2) x0 x1 x2 x3 x4 x5 x6)
def q_Y0_enact_57a (S : Cst) (x0 : Nat) (lc : Nat) (ls : Nat) (x1 : Int32) (x2 : Int32) (x3 : Int32) (x4 : Int32) (x5 : Int32) (x6 : Int32) : Prop := (iR S (grC S x0 4) 2) ∧ (p_Y3_write S ((grC S x0 4).getD 0) (1 : Int32) x2) ∧ (q_Y0_enact_66a ((f_Y3_write S ((grC S x0 4).getD 0) (1 : Int32) x2).2) x0 lc ls x1 x2 x3 x4 x5 x6)
def b_Y0_enact_48a (S : Cst) (x0 : Nat) (x1 : Int32) (x2 : Int32) (x3 : Int32) (x4 : Int32) (x5 : Int32) (x6 : Int32) : Int32 × Cst := (b_Y0_enact_57a ((f_Y3_write S ((grC S x0 4).getD 0) (0 : Int32) x1).2) x0 x1 x2 x3 x4 x5 x6)
def q_Y0_enact_48a (S : Cst) (x0 : Nat) (lc : Nat) (ls : Nat) (x1 : Int32) (x2 : Int32) (x3 : Int32) (x4 : Int32) (x5 : Int32) (x6 : Int32) : Prop := (iR S (grC S x0 4) 2) ∧ (p_Y3_write S ((grC S x0 4).getD 0) (0 : Int32) x1) ∧ (q_Y0_enact_57a ((f_Y3_write S ((grC S x0 4).getD 0) (0 : Int32) x1).2) x0 lc ls x1 x2 x3 x4 x5 x6)
def b_Y0_enact_39a (S : Cst) (x0 : Nat) (x1 : Int32) (x2 : Int32) (x3 : Int32) (x4 : Int32) (x5 : Int32) (y0 : Int32) : Int32 × Cst := (b_Y0_enact_48a ((f_Y3_open S ((grC S x0 4).getD 0)).2) x0 x1 x2 x3 x4 x5 y0)
def q_Y0_enact_39a (S : Cst) (x0 : Nat) (lc : Nat) (ls : Nat) (x1 : Int32) (x2 : Int32) (x3 : Int32) (x4 : Int32) (x5 : Int32) (y0 : Int32) : Prop := (iR S (grC S x0 4) 2) ∧ ((S.1 ≤ (f_Y3_open S ((grC S x0 4).getD 0)).2.1 ∧ (f_Y3_open S ((grC S x0 4).getD 0)).2.1 ≤ lc) ∧ (S.2.1 ≤ (f_Y3_open S ((grC S x0 4).getD 0)).2.2.1 ∧ (f_Y3_open S ((grC S x0 4).getD 0)).2.2.1 ≤ ls)) ∧ (p_Y3_open S ((grC S x0 4).getD 0) (f_Y3_open S ((grC S x0 4).getD 0)).2.1 (f_Y3_open S ((grC S x0 4).getD 0)).2.2.1) ∧ (q_Y0_enact_48a ((f_Y3_open S ((grC S x0 4).getD 0)).2) x0 lc ls x1 x2 x3 x4 x5 y0)
def b_Y0_enact_36a (S : Cst) (x0 : Nat) (x1 : Int32) (x2 : Int32) (x3 : Int32) (x4 : Int32) (x5 : Int32) (y0 : Int32) (y1 : Int32) (y2 : Int32) (y3 : Int32) (y4 : Int32) : Int32 × Cst := (b_Y0_enact_39a ((f_Y1_perform S x0 y4 y3 y2 y1 y0).2) x0 x1 x2 x3 x4 x5 ((f_Y1_perform S x0 y4 y3 y2 y1 y0).1))
def q_Y0_enact_36a (S : Cst) (x0 : Nat) (lc : Nat) (ls : Nat) (x1 : Int32) (x2 : Int32) (x3 : Int32) (x4 : Int32) (x5 : Int32) (y0 : Int32) (y1 : Int32) (y2 : Int32) (y3 : Int32) (y4 : Int32) : Prop := ((S.1 ≤ (f_Y1_perform S x0 y4 y3 y2 y1 y0).2.1 ∧ (f_Y1_perform S x0 y4 y3 y2 y1 y0).2.1 ≤ lc) ∧ (S.2.1 ≤ (f_Y1_perform S x0 y4 y3 y2 y1 y0).2.2.1 ∧ (f_Y1_perform S x0 y4 y3 y2 y1 y0).2.2.1 ≤ ls)) ∧ (p_Y1_perform S x0 (f_Y1_perform S x0 y4 y3 y2 y1 y0).2.1 (f_Y1_perform S x0 y4 y3 y2 y1 y0).2.2.1 y4 y3 y2 y1 y0) ∧ (q_Y0_enact_39a ((f_Y1_perform S x0 y4 y3 y2 y1 y0).2) x0 lc ls x1 x2 x3 x4 x5 ((f_Y1_perform S x0 y4 y3 y2 y1 y0).1))
def f_Y0_enact (S : Cst) (x0 : Nat) (x1 : Int32) (x2 : Int32) (x3 : Int32) (x4 : Int32) (x5 : Int32) : Int32 × Cst := if (giC (siC S x0 9 (f_Y8_against S x0 x1 x2 x3 x4 x5)) x0 9) = 0 then (b_Y0_enact_36a (siC S x0 9 (f_Y8_against S x0 x1 x2 x3 x4 x5)) x0 x1 x2 x3 x4 x5 x5 x4 x3 x2 x1) else ((-(giC (siC S x0 9 (f_Y8_against S x0 x1 x2 x3 x4 x5)) x0 9)), (siC S x0 9 (f_Y8_against S x0 x1 x2 x3 x4 x5)))
def p_Y0_enact (S : Cst) (x0 : Nat) (lc : Nat) (ls : Nat) (x1 : Int32) (x2 : Int32) (x3 : Int32) (x4 : Int32) (x5 : Int32) : Prop := (p_Y8_against S x0 x1 x2 x3 x4 x5) ∧ (if (giC (siC S x0 9 (f_Y8_against S x0 x1 x2 x3 x4 x5)) x0 9) = 0 then (q_Y0_enact_36a (siC S x0 9 (f_Y8_against S x0 x1 x2 x3 x4 x5)) x0 lc ls x1 x2 x3 x4 x5 x5 x4 x3 x2 x1) else True)
def e_Y0_enact : List Cond := [.methodLink RX0 155 yX8_against, .static yX8_against, .initialized RX8, .fieldLink RX0 73 "MotionFloor$Assembly" "reason" "I", .methodLink RX0 161 yX1_perform, .static yX1_perform, .initialized RX1, .fieldLink RX0 41 "MotionFloor$Assembly" "minutes" "LMotionFloor$Ledger;", .methodLink RX0 166 yX3_open, .instanceMethod yX3_open, .selects RX3 yX3_open yX3_open, .initialized RX3, .methodLink RX0 169 yX3_write, .instanceMethod yX3_write, .selects RX3 yX3_write yX3_write, .fieldLink RX0 21 "MotionFloor$Assembly" "pending" "LMotionFloor$Pile;", .fieldLink RX0 96 "MotionFloor$Pile" "size" "I"]
def v_Y0_enact : List Cond := .code yX0_enact cX0_enact 7 (some .int) :: (e_Y0_enact ++ (wsX00 ++ (wsX50 ++ (v_Y8_against ++ (v_Y1_perform ++ (v_Y3_open ++ (v_Y3_write ++ [])))))))
theorem te_Y0_enact : GoodIn lw_tbl e_Y0_enact := wGc zc689 (wGc zc499 (wGc zc373 (wGc zc92 (wGc zc688 (wGc zc687 (wGc zc667 (wGc zc99 (wGc zc686 (wGc zc589 (wGc zc588 (wGc zc480 (wGc zc685 (wGc zc584 (wGc zc583 (wGc zc58 (wGc zc43 (wG0)))))))))))))))))
theorem t_Y0_enact : GoodIn lw_tbl v_Y0_enact := wGc zc690 (wGa te_Y0_enact (wGa zcX0 (wGa zcX5 (wGa t_Y8_against (wGa t_Y1_perform (wGa t_Y3_open (wGa t_Y3_write (wG0))))))))
set_option maxHeartbeats 4000000 in
set_option maxRecDepth 100000 in
theorem c_Y0_enact (l : Launch) (G : va_G) (K : Nat → ClassId) (ad0 : Nat → Nat) (S0 : Cst) (x0 : Nat) (lc : Nat) (ls : Nat) (a1 : Int32) (a2 : Int32) (a3 : Int32) (a4 : Int32) (a5 : Int32) (sz : Nat) : Met l yX0_enact v_Y0_enact ({ frames := 7, cells := lc - S0.1, slots := ls - S0.2.1, locals := 200 }) (va_Pc [.ref (ad0 x0), .int a1, .int a2, .int a3, .int a4, .int a5] (cSt G K ad0 sz S0 ((S0.1 ≤ lc ∧ S0.2.1 ≤ ls) ∧ iK S0 x0 0 ∧ p_Y0_enact S0 x0 lc ls a1 a2 a3 a4 a5))) (va_Qi (fun (r : Int32) (u : Cst × (Nat → Nat)) => (r, u.1) = f_Y0_enact S0 x0 a1 a2 a3 a4 a5 ∧ eN S0 u.1 ∧ (∀ q, q < S0.1 → u.2 q = ad0 q)) (fun u t => cBt G K u.2 (va_A (wsC K ad0 S0) sz) u.1 t) (va_A (wsC K ad0 S0) sz)) (lc - S0.1) (ls - S0.2.1) (va_A (wsC K ad0 S0) sz) := by
  refine Met.ofW (cc := cX0_enact) (maxL := 7) (ret := (some .int)) (by decide) rfl ?_
  intro p e s m args below meth c s₁ B hml hv
  obtain ⟨rfl, ⟨hsz, hP, hK, hD0, hTE⟩, hp⟩ := hv
  obtain ⟨k_l, hp⟩ := hp
  obtain ⟨k_x0, hp⟩ := hp
  have hx := B.exec
  have hb := B.bytes
  have hr := B.returns
  have hts := atoms_spec (ws := v_Y0_enact) B.pre
  have t_ := t_Y0_enact
  have mw : ∀ w ∈ e_Y0_enact, w ∈ v_Y0_enact := fun w h => List.mem_cons_of_mem _ (List.mem_append_left _ h)
  have hw := fun w (h : w ∈ e_Y0_enact) => hts w (mw w h)
  have iX0 : ∀ w ∈ wsX00, w ∈ v_Y0_enact := fun w h => List.mem_cons_of_mem _ (List.mem_append_right _ (List.mem_append_left _ h))
  have iX5 : ∀ w ∈ wsX50, w ∈ v_Y0_enact := fun w h => List.mem_cons_of_mem _ (List.mem_append_right _ (List.mem_append_right _ (List.mem_append_left _ h)))
  have j_Y8_against : ∀ w ∈ v_Y8_against, w ∈ v_Y0_enact := fun w h => List.mem_cons_of_mem _ (List.mem_append_right _ (List.mem_append_right _ (List.mem_append_right _ (List.mem_append_left _ h))))
  have j_Y1_perform : ∀ w ∈ v_Y1_perform, w ∈ v_Y0_enact := fun w h => List.mem_cons_of_mem _ (List.mem_append_right _ (List.mem_append_right _ (List.mem_append_right _ (List.mem_append_right _ (List.mem_append_left _ h)))))
  have j_Y3_open : ∀ w ∈ v_Y3_open, w ∈ v_Y0_enact := fun w h => List.mem_cons_of_mem _ (List.mem_append_right _ (List.mem_append_right _ (List.mem_append_right _ (List.mem_append_right _ (List.mem_append_right _ (List.mem_append_left _ h))))))
  have j_Y3_write : ∀ w ∈ v_Y3_write, w ∈ v_Y0_enact := fun w h => List.mem_cons_of_mem _ (List.mem_append_right _ (List.mem_append_right _ (List.mem_append_right _ (List.mem_append_right _ (List.mem_append_right _ (List.mem_append_right _ (List.mem_append_left _ h)))))))
  have hown : s.vm.findClass RX0 = some m.cls := findClass_of_methodNamed B.named
  have hlocks := B.notSynchronized
  subst hsz
  have hD := hD0.self (sz := s.heap.size)
  generalize hAe : va_A (wsC K ad0 S0) s.heap.size = A at hD ⊢
  have hA : ∀ q : Nat, s.heap.size ≤ q → A q := fun q h => by rw [← hAe]; exact Or.inr h
  have hS : va_S A s.heap s.heap [] := va_S.rf
  have hl : lv_has (lg_sl ([.ref (ad0 x0), .int a1, .int a2, .int a3, .int a4, .int a5]) ++ List.replicate (7 - (lg_sl ([.ref (ad0 x0), .int a1, .int a2, .int a3, .int a4, .int a5])).length) Slot.unset).toArray 7 [(0, .ref (ad0 x0)), (1, .int a1), (2, .int a2), (3, .int a3), (4, .int a4), (5, .int a5)] := by
    exact lv_entry ([.ref (ad0 x0), .int a1, .int a2, .int a3, .int a4, .int a5]) (n := 7) (Nat.le_of_ble_eq_true rfl)
  rw [lg_entry_eq]
  generalize (lg_sl ([.ref (ad0 x0), .int a1, .int a2, .int a3, .int a4, .int a5]) ++ List.replicate (7 - (lg_sl ([.ref (ad0 x0), .int a1, .int a2, .int a3, .int a4, .int a5])).length) Slot.unset).toArray = ls_ at hl ⊢
  refine wGen (fun Q hQ => ?_)
  obtain ⟨X, hX⟩ : ∃ X, f_Y0_enact S0 x0 a1 a2 a3 a4 a5 = X := ⟨_, rfl⟩
  have B_Y0_enact_121a : ∀ (S : Cst) (ad : Nat → Nat) (x1 : Int32) (x2 : Int32) (x3 : Int32) (x4 : Int32) (x5 : Int32) (x6 : Int32) (H : Heap) (locs : List Loc) (ls_ : Array Slot), b_Y0_enact_121a S x0 x1 x2 x3 x4 x5 x6 = X → q_Y0_enact_121a S x0 lc ls x1 x2 x3 x4 x5 x6 → nH S0 ad0 lc ls S ad → va_P G vwCl (wsC K ad S) H → va_D A (wsC K ad S) → va_S A s.heap H locs → lv_has ls_ 7 [(0, .ref (ad x0)), (1, .int x1), (2, .int x2), (3, .int x3), (4, .int x4), (5, .int x5), (6, .int x6)] → W p l e ({ frames := 7, cells := lc - S0.1, slots := ls - S0.2.1, locals := 200 } : Room) s m #[Value.ref (ad0 x0), Value.int a1, Value.int a2, Value.int a3, Value.int a4, Value.int a5] below meth c H locs (S.1 - S0.1) (S.2.1 - S0.2.1) Q (F0 m 121 ls_ []) := by
    intro S ad x1 x2 x3 x4 x5 x6 H locs ls_ hE hp hZ hP hD hS hl
    unfold b_Y0_enact_121a at hE
    unfold q_Y0_enact_121a at hp
    refine lv_iload hx hb dX0_enact_121 (lv_at hl 6 rfl) ?_
    refine W.widen (k := lc - S0.1) (n := ls - S0.2.1) (show S.1 - S0.1 ≤ lc - S0.1 from Nat.sub_le_sub_right hZ.2.2.1 _) (show S.2.1 - S0.2.1 ≤ ls - S0.2.1 from Nat.sub_le_sub_right hZ.2.2.2 _) ?_
    subst hQ
    exact W.iret (v := x6) hx hb hr (fun t ht hW => ⟨⟨x6, (S, ad), rfl, ⟨hE.trans hX.symm, hZ.1, hZ.2.1⟩, by rw [ht]; exact hP, hD⟩, hS.F ht⟩) hS.2.2 dX0_enact_123
  have B_Y0_enact_105a : ∀ (S : Cst) (ad : Nat → Nat) (x1 : Int32) (x2 : Int32) (x3 : Int32) (x4 : Int32) (x5 : Int32) (x6 : Int32) (H : Heap) (locs : List Loc) (ls_ : Array Slot), b_Y0_enact_105a S x0 x1 x2 x3 x4 x5 x6 = X → q_Y0_enact_105a S x0 lc ls x1 x2 x3 x4 x5 x6 → nH S0 ad0 lc ls S ad → va_P G vwCl (wsC K ad S) H → va_D A (wsC K ad S) → va_S A s.heap H locs → lv_has ls_ 7 [(0, .ref (ad x0)), (1, .int x1), (2, .int x2), (3, .int x3), (4, .int x4), (5, .int x5), (6, .int x6)] → W p l e ({ frames := 7, cells := lc - S0.1, slots := ls - S0.2.1, locals := 200 } : Room) s m #[Value.ref (ad0 x0), Value.int a1, Value.int a2, Value.int a3, Value.int a4, Value.int a5] below meth c H locs (S.1 - S0.1) (S.2.1 - S0.2.1) Q (F0 m 105 ls_ []) := by
    intro S ad x1 x2 x3 x4 x5 x6 H locs ls_ hE hp hZ hP hD hS hl
    unfold b_Y0_enact_105a at hE
    unfold q_Y0_enact_105a at hp
    refine lv_aload_n hx hb dX0_enact_105 rfl (lv_at hl 0 rfl) ?_
    refine va_get (D := G) (ci := 0) (v := va_re ad (grC S x0 4)) (C := RX0) (T := TX0) (N := 11) hx hb hts iX0 hown hK hP x0 (at_0 (k_x0.n hZ.1)) rfl 4 (by decide) (hw (.fieldLink RX0 41 "MotionFloor$Assembly" "minutes" "LMotionFloor$Ledger;") (List.mem_of_getElem? (i := 7) rfl)) (fun _ h9 => h9) rfl dX0_enact_106 ?_
    refine lv_bipush (v := 6) hx hb dX0_enact_109 (by decide) ?_
    refine lv_aload_n hx hb dX0_enact_111 rfl (lv_at hl 0 rfl) ?_
    refine va_get (D := G) (ci := 0) (v := va_re ad (grC S x0 1)) (C := RX0) (T := TX0) (N := 11) hx hb hts iX0 hown hK hP x0 (at_0 (k_x0.n hZ.1)) rfl 1 (by decide) (hw (.fieldLink RX0 21 "MotionFloor$Assembly" "pending" "LMotionFloor$Pile;") (List.mem_of_getElem? (i := 15) rfl)) (fun _ h9 => h9) rfl dX0_enact_112 ?_
    obtain ⟨hy38, hp⟩ := hp
    refine cTop (r := (grC S x0 1)) hy38.1 ?_
    refine va_get (D := G) (ci := 4) (v := .int (giC S ((grC S x0 1).getD 0) 1)) (C := RX5) (T := TX5) (N := 2) hx hb hts iX5 hown hK hP ((grC S x0 1).getD 0) (at_4 hy38.2) rfl 1 (by decide) (hw (.fieldLink RX0 96 "MotionFloor$Pile" "size" "I") (List.mem_of_getElem? (i := 16) rfl)) (fun _ h9 => h9) rfl dX0_enact_115 ?_
    obtain ⟨hy39, hp⟩ := hp
    refine cTop3 (r := (grC S x0 4)) hy39.1 ?_
    obtain ⟨hy40, hp⟩ := hp
    refine cGov (va_runV (As := [.int 6, .int (giC S ((grC S x0 1).getD 0) 1)]) (rest := []) ⟨hx, hb, hml, hown, hts⟩ (c_Y3_write l G K ad S ((grC S x0 4).getD 0) (6 : Int32) (giC S ((grC S x0 1).getD 0) 1) _) (cwV 2 hts (wGV t_ (mw (.methodLink RX0 169 yX3_write) (List.mem_of_getElem? (i := 12) rfl)) (mw (.instanceMethod yX3_write) (List.mem_of_getElem? (i := 13) rfl)) (mw (.selects RX3 yX3_write yX3_write) (List.mem_of_getElem? (i := 14) rfl)) (mw (.initialized RX3) (List.mem_of_getElem? (i := 11) rfl)) j_Y3_write) rfl rfl rfl (by decide +kernel) ⟨Nat.le_of_ble_eq_true rfl, Nat.le_of_ble_eq_true rfl⟩) (cPV hK hTE hP hD 2 rfl (at_2 hy39.2) ⟨hy39.2, hy40⟩) rfl rfl hl.1 rfl (lv_room (Nat.le_of_ble_eq_true rfl)) dX0_enact_118 ⟨(show S.1 - S0.1 ≤ lc - S0.1 from Nat.sub_le_sub_right hZ.2.2.1 _), (show S.2.1 - S0.2.1 ≤ ls - S0.2.1 from Nat.sub_le_sub_right hZ.2.2.2 _)⟩) hP hD hS hA (fun u41 H locs hv hP hD hS => ?_)
    obtain ⟨hv, hz⟩ := hv
    have hZ := hZ.k hz
    refine cCells (cells' := u41.1 - S0.1) (slots' := u41.2.1 - S0.2.1) (by have e : S.1 = u41.1 := hz.1.1; show S.1 - S0.1 + 0 = _; omega) (by have e : S.2.1 = u41.2.1 := hz.1.2; show S.2.1 - S0.2.1 + 0 = _; omega) ?_
    rw [← hv] at hE hp
    dsimp only at hE hp
    exact B_Y0_enact_121a u41 ad x1 x2 x3 x4 x5 x6 _ _ _ hE hp hZ hP hD hS (lv_sub hl [0, 1, 2, 3, 4, 5, 6] rfl)
  have B_Y0_enact_95a : ∀ (S : Cst) (ad : Nat → Nat) (x1 : Int32) (x2 : Int32) (x3 : Int32) (x4 : Int32) (x5 : Int32) (x6 : Int32) (H : Heap) (locs : List Loc) (ls_ : Array Slot), b_Y0_enact_95a S x0 x1 x2 x3 x4 x5 x6 = X → q_Y0_enact_95a S x0 lc ls x1 x2 x3 x4 x5 x6 → nH S0 ad0 lc ls S ad → va_P G vwCl (wsC K ad S) H → va_D A (wsC K ad S) → va_S A s.heap H locs → lv_has ls_ 7 [(0, .ref (ad x0)), (1, .int x1), (2, .int x2), (3, .int x3), (4, .int x4), (5, .int x5), (6, .int x6)] → W p l e ({ frames := 7, cells := lc - S0.1, slots := ls - S0.2.1, locals := 200 } : Room) s m #[Value.ref (ad0 x0), Value.int a1, Value.int a2, Value.int a3, Value.int a4, Value.int a5] below meth c H locs (S.1 - S0.1) (S.2.1 - S0.2.1) Q (F0 m 95 ls_ []) := by
    intro S ad x1 x2 x3 x4 x5 x6 H locs ls_ hE hp hZ hP hD hS hl
    unfold b_Y0_enact_95a at hE
    unfold q_Y0_enact_95a at hp
    refine lv_aload_n hx hb dX0_enact_95 rfl (lv_at hl 0 rfl) ?_
    refine va_get (D := G) (ci := 0) (v := va_re ad (grC S x0 4)) (C := RX0) (T := TX0) (N := 11) hx hb hts iX0 hown hK hP x0 (at_0 (k_x0.n hZ.1)) rfl 4 (by decide) (hw (.fieldLink RX0 41 "MotionFloor$Assembly" "minutes" "LMotionFloor$Ledger;") (List.mem_of_getElem? (i := 7) rfl)) (fun _ h9 => h9) rfl dX0_enact_96 ?_
    refine lv_iconst (v := 5) hx hb dX0_enact_99 (by decide) ?_
    refine lv_iload hx hb dX0_enact_100 (lv_at hl 6 rfl) ?_
    obtain ⟨hy34, hp⟩ := hp
    refine cTop3 (r := (grC S x0 4)) hy34.1 ?_
    obtain ⟨hy35, hp⟩ := hp
    refine cGov (va_runV (As := [.int 5, .int x6]) (rest := []) ⟨hx, hb, hml, hown, hts⟩ (c_Y3_write l G K ad S ((grC S x0 4).getD 0) (5 : Int32) x6 _) (cwV 2 hts (wGV t_ (mw (.methodLink RX0 169 yX3_write) (List.mem_of_getElem? (i := 12) rfl)) (mw (.instanceMethod yX3_write) (List.mem_of_getElem? (i := 13) rfl)) (mw (.selects RX3 yX3_write yX3_write) (List.mem_of_getElem? (i := 14) rfl)) (mw (.initialized RX3) (List.mem_of_getElem? (i := 11) rfl)) j_Y3_write) rfl rfl rfl (by decide +kernel) ⟨Nat.le_of_ble_eq_true rfl, Nat.le_of_ble_eq_true rfl⟩) (cPV hK hTE hP hD 2 rfl (at_2 hy34.2) ⟨hy34.2, hy35⟩) rfl rfl hl.1 rfl (lv_room (Nat.le_of_ble_eq_true rfl)) dX0_enact_102 ⟨(show S.1 - S0.1 ≤ lc - S0.1 from Nat.sub_le_sub_right hZ.2.2.1 _), (show S.2.1 - S0.2.1 ≤ ls - S0.2.1 from Nat.sub_le_sub_right hZ.2.2.2 _)⟩) hP hD hS hA (fun u36 H locs hv hP hD hS => ?_)
    obtain ⟨hv, hz⟩ := hv
    have hZ := hZ.k hz
    refine cCells (cells' := u36.1 - S0.1) (slots' := u36.2.1 - S0.2.1) (by have e : S.1 = u36.1 := hz.1.1; show S.1 - S0.1 + 0 = _; omega) (by have e : S.2.1 = u36.2.1 := hz.1.2; show S.2.1 - S0.2.1 + 0 = _; omega) ?_
    rw [← hv] at hE hp
    dsimp only at hE hp
    exact B_Y0_enact_105a u36 ad x1 x2 x3 x4 x5 x6 _ _ _ hE hp hZ hP hD hS (lv_sub hl [0, 1, 2, 3, 4, 5, 6] rfl)
  have B_Y0_enact_85a : ∀ (S : Cst) (ad : Nat → Nat) (x1 : Int32) (x2 : Int32) (x3 : Int32) (x4 : Int32) (x5 : Int32) (x6 : Int32) (H : Heap) (locs : List Loc) (ls_ : Array Slot), b_Y0_enact_85a S x0 x1 x2 x3 x4 x5 x6 = X → q_Y0_enact_85a S x0 lc ls x1 x2 x3 x4 x5 x6 → nH S0 ad0 lc ls S ad → va_P G vwCl (wsC K ad S) H → va_D A (wsC K ad S) → va_S A s.heap H locs → lv_has ls_ 7 [(0, .ref (ad x0)), (1, .int x1), (2, .int x2), (3, .int x3), (4, .int x4), (5, .int x5), (6, .int x6)] → W p l e ({ frames := 7, cells := lc - S0.1, slots := ls - S0.2.1, locals := 200 } : Room) s m #[Value.ref (ad0 x0), Value.int a1, Value.int a2, Value.int a3, Value.int a4, Value.int a5] below meth c H locs (S.1 - S0.1) (S.2.1 - S0.2.1) Q (F0 m 85 ls_ []) := by
    intro S ad x1 x2 x3 x4 x5 x6 H locs ls_ hE hp hZ hP hD hS hl
    unfold b_Y0_enact_85a at hE
    unfold q_Y0_enact_85a at hp
    refine lv_aload_n hx hb dX0_enact_85 rfl (lv_at hl 0 rfl) ?_
    refine va_get (D := G) (ci := 0) (v := va_re ad (grC S x0 4)) (C := RX0) (T := TX0) (N := 11) hx hb hts iX0 hown hK hP x0 (at_0 (k_x0.n hZ.1)) rfl 4 (by decide) (hw (.fieldLink RX0 41 "MotionFloor$Assembly" "minutes" "LMotionFloor$Ledger;") (List.mem_of_getElem? (i := 7) rfl)) (fun _ h9 => h9) rfl dX0_enact_86 ?_
    refine lv_iconst (v := 4) hx hb dX0_enact_89 (by decide) ?_
    refine lv_iload hx hb dX0_enact_90 (lv_at hl 5 rfl) ?_
    obtain ⟨hy30, hp⟩ := hp
    refine cTop3 (r := (grC S x0 4)) hy30.1 ?_
    obtain ⟨hy31, hp⟩ := hp
    refine cGov (va_runV (As := [.int 4, .int x5]) (rest := []) ⟨hx, hb, hml, hown, hts⟩ (c_Y3_write l G K ad S ((grC S x0 4).getD 0) (4 : Int32) x5 _) (cwV 2 hts (wGV t_ (mw (.methodLink RX0 169 yX3_write) (List.mem_of_getElem? (i := 12) rfl)) (mw (.instanceMethod yX3_write) (List.mem_of_getElem? (i := 13) rfl)) (mw (.selects RX3 yX3_write yX3_write) (List.mem_of_getElem? (i := 14) rfl)) (mw (.initialized RX3) (List.mem_of_getElem? (i := 11) rfl)) j_Y3_write) rfl rfl rfl (by decide +kernel) ⟨Nat.le_of_ble_eq_true rfl, Nat.le_of_ble_eq_true rfl⟩) (cPV hK hTE hP hD 2 rfl (at_2 hy30.2) ⟨hy30.2, hy31⟩) rfl rfl hl.1 rfl (lv_room (Nat.le_of_ble_eq_true rfl)) dX0_enact_92 ⟨(show S.1 - S0.1 ≤ lc - S0.1 from Nat.sub_le_sub_right hZ.2.2.1 _), (show S.2.1 - S0.2.1 ≤ ls - S0.2.1 from Nat.sub_le_sub_right hZ.2.2.2 _)⟩) hP hD hS hA (fun u32 H locs hv hP hD hS => ?_)
    obtain ⟨hv, hz⟩ := hv
    have hZ := hZ.k hz
    refine cCells (cells' := u32.1 - S0.1) (slots' := u32.2.1 - S0.2.1) (by have e : S.1 = u32.1 := hz.1.1; show S.1 - S0.1 + 0 = _; omega) (by have e : S.2.1 = u32.2.1 := hz.1.2; show S.2.1 - S0.2.1 + 0 = _; omega) ?_
    rw [← hv] at hE hp
    dsimp only at hE hp
    exact B_Y0_enact_95a u32 ad x1 x2 x3 x4 x5 x6 _ _ _ hE hp hZ hP hD hS (lv_sub hl [0, 1, 2, 3, 4, 5, 6] rfl)
  have B_Y0_enact_75a : ∀ (S : Cst) (ad : Nat → Nat) (x1 : Int32) (x2 : Int32) (x3 : Int32) (x4 : Int32) (x5 : Int32) (x6 : Int32) (H : Heap) (locs : List Loc) (ls_ : Array Slot), b_Y0_enact_75a S x0 x1 x2 x3 x4 x5 x6 = X → q_Y0_enact_75a S x0 lc ls x1 x2 x3 x4 x5 x6 → nH S0 ad0 lc ls S ad → va_P G vwCl (wsC K ad S) H → va_D A (wsC K ad S) → va_S A s.heap H locs → lv_has ls_ 7 [(0, .ref (ad x0)), (1, .int x1), (2, .int x2), (3, .int x3), (4, .int x4), (5, .int x5), (6, .int x6)] → W p l e ({ frames := 7, cells := lc - S0.1, slots := ls - S0.2.1, locals := 200 } : Room) s m #[Value.ref (ad0 x0), Value.int a1, Value.int a2, Value.int a3, Value.int a4, Value.int a5] below meth c H locs (S.1 - S0.1) (S.2.1 - S0.2.1) Q (F0 m 75 ls_ []) := by
    intro S ad x1 x2 x3 x4 x5 x6 H locs ls_ hE hp hZ hP hD hS hl
    unfold b_Y0_enact_75a at hE
    unfold q_Y0_enact_75a at hp
    refine lv_aload_n hx hb dX0_enact_75 rfl (lv_at hl 0 rfl) ?_
    refine va_get (D := G) (ci := 0) (v := va_re ad (grC S x0 4)) (C := RX0) (T := TX0) (N := 11) hx hb hts iX0 hown hK hP x0 (at_0 (k_x0.n hZ.1)) rfl 4 (by decide) (hw (.fieldLink RX0 41 "MotionFloor$Assembly" "minutes" "LMotionFloor$Ledger;") (List.mem_of_getElem? (i := 7) rfl)) (fun _ h9 => h9) rfl dX0_enact_76 ?_
    refine lv_iconst (v := 3) hx hb dX0_enact_79 (by decide) ?_
    refine lv_iload hx hb dX0_enact_80 (lv_at hl 4 rfl) ?_
    obtain ⟨hy26, hp⟩ := hp
    refine cTop3 (r := (grC S x0 4)) hy26.1 ?_
    obtain ⟨hy27, hp⟩ := hp
    refine cGov (va_runV (As := [.int 3, .int x4]) (rest := []) ⟨hx, hb, hml, hown, hts⟩ (c_Y3_write l G K ad S ((grC S x0 4).getD 0) (3 : Int32) x4 _) (cwV 2 hts (wGV t_ (mw (.methodLink RX0 169 yX3_write) (List.mem_of_getElem? (i := 12) rfl)) (mw (.instanceMethod yX3_write) (List.mem_of_getElem? (i := 13) rfl)) (mw (.selects RX3 yX3_write yX3_write) (List.mem_of_getElem? (i := 14) rfl)) (mw (.initialized RX3) (List.mem_of_getElem? (i := 11) rfl)) j_Y3_write) rfl rfl rfl (by decide +kernel) ⟨Nat.le_of_ble_eq_true rfl, Nat.le_of_ble_eq_true rfl⟩) (cPV hK hTE hP hD 2 rfl (at_2 hy26.2) ⟨hy26.2, hy27⟩) rfl rfl hl.1 rfl (lv_room (Nat.le_of_ble_eq_true rfl)) dX0_enact_82 ⟨(show S.1 - S0.1 ≤ lc - S0.1 from Nat.sub_le_sub_right hZ.2.2.1 _), (show S.2.1 - S0.2.1 ≤ ls - S0.2.1 from Nat.sub_le_sub_right hZ.2.2.2 _)⟩) hP hD hS hA (fun u28 H locs hv hP hD hS => ?_)
    obtain ⟨hv, hz⟩ := hv
    have hZ := hZ.k hz
    refine cCells (cells' := u28.1 - S0.1) (slots' := u28.2.1 - S0.2.1) (by have e : S.1 = u28.1 := hz.1.1; show S.1 - S0.1 + 0 = _; omega) (by have e : S.2.1 = u28.2.1 := hz.1.2; show S.2.1 - S0.2.1 + 0 = _; omega) ?_
    rw [← hv] at hE hp
    dsimp only at hE hp
    exact B_Y0_enact_85a u28 ad x1 x2 x3 x4 x5 x6 _ _ _ hE hp hZ hP hD hS (lv_sub hl [0, 1, 2, 3, 4, 5, 6] rfl)
  have B_Y0_enact_66a : ∀ (S : Cst) (ad : Nat → Nat) (x1 : Int32) (x2 : Int32) (x3 : Int32) (x4 : Int32) (x5 : Int32) (x6 : Int32) (H : Heap) (locs : List Loc) (ls_ : Array Slot), b_Y0_enact_66a S x0 x1 x2 x3 x4 x5 x6 = X → q_Y0_enact_66a S x0 lc ls x1 x2 x3 x4 x5 x6 → nH S0 ad0 lc ls S ad → va_P G vwCl (wsC K ad S) H → va_D A (wsC K ad S) → va_S A s.heap H locs → lv_has ls_ 7 [(0, .ref (ad x0)), (1, .int x1), (2, .int x2), (3, .int x3), (4, .int x4), (5, .int x5), (6, .int x6)] → W p l e ({ frames := 7, cells := lc - S0.1, slots := ls - S0.2.1, locals := 200 } : Room) s m #[Value.ref (ad0 x0), Value.int a1, Value.int a2, Value.int a3, Value.int a4, Value.int a5] below meth c H locs (S.1 - S0.1) (S.2.1 - S0.2.1) Q (F0 m 66 ls_ []) := by
    intro S ad x1 x2 x3 x4 x5 x6 H locs ls_ hE hp hZ hP hD hS hl
    unfold b_Y0_enact_66a at hE
    unfold q_Y0_enact_66a at hp
    refine lv_aload_n hx hb dX0_enact_66 rfl (lv_at hl 0 rfl) ?_
    refine va_get (D := G) (ci := 0) (v := va_re ad (grC S x0 4)) (C := RX0) (T := TX0) (N := 11) hx hb hts iX0 hown hK hP x0 (at_0 (k_x0.n hZ.1)) rfl 4 (by decide) (hw (.fieldLink RX0 41 "MotionFloor$Assembly" "minutes" "LMotionFloor$Ledger;") (List.mem_of_getElem? (i := 7) rfl)) (fun _ h9 => h9) rfl dX0_enact_67 ?_
    refine lv_iconst (v := 2) hx hb dX0_enact_70 (by decide) ?_
    refine lv_iload_n hx hb dX0_enact_71 rfl (lv_at hl 3 rfl) ?_
    obtain ⟨hy22, hp⟩ := hp
    refine cTop3 (r := (grC S x0 4)) hy22.1 ?_
    obtain ⟨hy23, hp⟩ := hp
    refine cGov (va_runV (As := [.int 2, .int x3]) (rest := []) ⟨hx, hb, hml, hown, hts⟩ (c_Y3_write l G K ad S ((grC S x0 4).getD 0) (2 : Int32) x3 _) (cwV 2 hts (wGV t_ (mw (.methodLink RX0 169 yX3_write) (List.mem_of_getElem? (i := 12) rfl)) (mw (.instanceMethod yX3_write) (List.mem_of_getElem? (i := 13) rfl)) (mw (.selects RX3 yX3_write yX3_write) (List.mem_of_getElem? (i := 14) rfl)) (mw (.initialized RX3) (List.mem_of_getElem? (i := 11) rfl)) j_Y3_write) rfl rfl rfl (by decide +kernel) ⟨Nat.le_of_ble_eq_true rfl, Nat.le_of_ble_eq_true rfl⟩) (cPV hK hTE hP hD 2 rfl (at_2 hy22.2) ⟨hy22.2, hy23⟩) rfl rfl hl.1 rfl (lv_room (Nat.le_of_ble_eq_true rfl)) dX0_enact_72 ⟨(show S.1 - S0.1 ≤ lc - S0.1 from Nat.sub_le_sub_right hZ.2.2.1 _), (show S.2.1 - S0.2.1 ≤ ls - S0.2.1 from Nat.sub_le_sub_right hZ.2.2.2 _)⟩) hP hD hS hA (fun u24 H locs hv hP hD hS => ?_)
    obtain ⟨hv, hz⟩ := hv
    have hZ := hZ.k hz
    refine cCells (cells' := u24.1 - S0.1) (slots' := u24.2.1 - S0.2.1) (by have e : S.1 = u24.1 := hz.1.1; show S.1 - S0.1 + 0 = _; omega) (by have e : S.2.1 = u24.2.1 := hz.1.2; show S.2.1 - S0.2.1 + 0 = _; omega) ?_
    rw [← hv] at hE hp
    dsimp only at hE hp
    exact B_Y0_enact_75a u24 ad x1 x2 x3 x4 x5 x6 _ _ _ hE hp hZ hP hD hS (lv_sub hl [0, 1, 2, 3, 4, 5, 6] rfl)
  have B_Y0_enact_57a : ∀ (S : Cst) (ad : Nat → Nat) (x1 : Int32) (x2 : Int32) (x3 : Int32) (x4 : Int32) (x5 : Int32) (x6 : Int32) (H : Heap) (locs : List Loc) (ls_ : Array Slot), b_Y0_enact_57a S x0 x1 x2 x3 x4 x5 x6 = X → q_Y0_enact_57a S x0 lc ls x1 x2 x3 x4 x5 x6 → nH S0 ad0 lc ls S ad → va_P G vwCl (wsC K ad S) H → va_D A (wsC K ad S) → va_S A s.heap H locs → lv_has ls_ 7 [(0, .ref (ad x0)), (1, .int x1), (2, .int x2), (3, .int x3), (4, .int x4), (5, .int x5), (6, .int x6)] → W p l e ({ frames := 7, cells := lc - S0.1, slots := ls - S0.2.1, locals := 200 } : Room) s m #[Value.ref (ad0 x0), Value.int a1, Value.int a2, Value.int a3, Value.int a4, Value.int a5] below meth c H locs (S.1 - S0.1) (S.2.1 - S0.2.1) Q (F0 m 57 ls_ []) := by
    intro S ad x1 x2 x3 x4 x5 x6 H locs ls_ hE hp hZ hP hD hS hl
    unfold b_Y0_enact_57a at hE
    unfold q_Y0_enact_57a at hp
    refine lv_aload_n hx hb dX0_enact_57 rfl (lv_at hl 0 rfl) ?_
    refine va_get (D := G) (ci := 0) (v := va_re ad (grC S x0 4)) (C := RX0) (T := TX0) (N := 11) hx hb hts iX0 hown hK hP x0 (at_0 (k_x0.n hZ.1)) rfl 4 (by decide) (hw (.fieldLink RX0 41 "MotionFloor$Assembly" "minutes" "LMotionFloor$Ledger;") (List.mem_of_getElem? (i := 7) rfl)) (fun _ h9 => h9) rfl dX0_enact_58 ?_
    refine lv_iconst (v := 1) hx hb dX0_enact_61 (by decide) ?_
    refine lv_iload_n hx hb dX0_enact_62 rfl (lv_at hl 2 rfl) ?_
    obtain ⟨hy18, hp⟩ := hp
    refine cTop3 (r := (grC S x0 4)) hy18.1 ?_
    obtain ⟨hy19, hp⟩ := hp
    refine cGov (va_runV (As := [.int 1, .int x2]) (rest := []) ⟨hx, hb, hml, hown, hts⟩ (c_Y3_write l G K ad S ((grC S x0 4).getD 0) (1 : Int32) x2 _) (cwV 2 hts (wGV t_ (mw (.methodLink RX0 169 yX3_write) (List.mem_of_getElem? (i := 12) rfl)) (mw (.instanceMethod yX3_write) (List.mem_of_getElem? (i := 13) rfl)) (mw (.selects RX3 yX3_write yX3_write) (List.mem_of_getElem? (i := 14) rfl)) (mw (.initialized RX3) (List.mem_of_getElem? (i := 11) rfl)) j_Y3_write) rfl rfl rfl (by decide +kernel) ⟨Nat.le_of_ble_eq_true rfl, Nat.le_of_ble_eq_true rfl⟩) (cPV hK hTE hP hD 2 rfl (at_2 hy18.2) ⟨hy18.2, hy19⟩) rfl rfl hl.1 rfl (lv_room (Nat.le_of_ble_eq_true rfl)) dX0_enact_63 ⟨(show S.1 - S0.1 ≤ lc - S0.1 from Nat.sub_le_sub_right hZ.2.2.1 _), (show S.2.1 - S0.2.1 ≤ ls - S0.2.1 from Nat.sub_le_sub_right hZ.2.2.2 _)⟩) hP hD hS hA (fun u20 H locs hv hP hD hS => ?_)
    obtain ⟨hv, hz⟩ := hv
    have hZ := hZ.k hz
    refine cCells (cells' := u20.1 - S0.1) (slots' := u20.2.1 - S0.2.1) (by have e : S.1 = u20.1 := hz.1.1; show S.1 - S0.1 + 0 = _; omega) (by have e : S.2.1 = u20.2.1 := hz.1.2; show S.2.1 - S0.2.1 + 0 = _; omega) ?_
    rw [← hv] at hE hp
    dsimp only at hE hp
    exact B_Y0_enact_66a u20 ad x1 x2 x3 x4 x5 x6 _ _ _ hE hp hZ hP hD hS (lv_sub hl [0, 1, 2, 3, 4, 5, 6] rfl)
  have B_Y0_enact_48a : ∀ (S : Cst) (ad : Nat → Nat) (x1 : Int32) (x2 : Int32) (x3 : Int32) (x4 : Int32) (x5 : Int32) (x6 : Int32) (H : Heap) (locs : List Loc) (ls_ : Array Slot), b_Y0_enact_48a S x0 x1 x2 x3 x4 x5 x6 = X → q_Y0_enact_48a S x0 lc ls x1 x2 x3 x4 x5 x6 → nH S0 ad0 lc ls S ad → va_P G vwCl (wsC K ad S) H → va_D A (wsC K ad S) → va_S A s.heap H locs → lv_has ls_ 7 [(0, .ref (ad x0)), (1, .int x1), (2, .int x2), (3, .int x3), (4, .int x4), (5, .int x5), (6, .int x6)] → W p l e ({ frames := 7, cells := lc - S0.1, slots := ls - S0.2.1, locals := 200 } : Room) s m #[Value.ref (ad0 x0), Value.int a1, Value.int a2, Value.int a3, Value.int a4, Value.int a5] below meth c H locs (S.1 - S0.1) (S.2.1 - S0.2.1) Q (F0 m 48 ls_ []) := by
    intro S ad x1 x2 x3 x4 x5 x6 H locs ls_ hE hp hZ hP hD hS hl
    unfold b_Y0_enact_48a at hE
    unfold q_Y0_enact_48a at hp
    refine lv_aload_n hx hb dX0_enact_48 rfl (lv_at hl 0 rfl) ?_
    refine va_get (D := G) (ci := 0) (v := va_re ad (grC S x0 4)) (C := RX0) (T := TX0) (N := 11) hx hb hts iX0 hown hK hP x0 (at_0 (k_x0.n hZ.1)) rfl 4 (by decide) (hw (.fieldLink RX0 41 "MotionFloor$Assembly" "minutes" "LMotionFloor$Ledger;") (List.mem_of_getElem? (i := 7) rfl)) (fun _ h9 => h9) rfl dX0_enact_49 ?_
    refine lv_iconst (v := 0) hx hb dX0_enact_52 (by decide) ?_
    refine lv_iload_n hx hb dX0_enact_53 rfl (lv_at hl 1 rfl) ?_
    obtain ⟨hy14, hp⟩ := hp
    refine cTop3 (r := (grC S x0 4)) hy14.1 ?_
    obtain ⟨hy15, hp⟩ := hp
    refine cGov (va_runV (As := [.int 0, .int x1]) (rest := []) ⟨hx, hb, hml, hown, hts⟩ (c_Y3_write l G K ad S ((grC S x0 4).getD 0) (0 : Int32) x1 _) (cwV 2 hts (wGV t_ (mw (.methodLink RX0 169 yX3_write) (List.mem_of_getElem? (i := 12) rfl)) (mw (.instanceMethod yX3_write) (List.mem_of_getElem? (i := 13) rfl)) (mw (.selects RX3 yX3_write yX3_write) (List.mem_of_getElem? (i := 14) rfl)) (mw (.initialized RX3) (List.mem_of_getElem? (i := 11) rfl)) j_Y3_write) rfl rfl rfl (by decide +kernel) ⟨Nat.le_of_ble_eq_true rfl, Nat.le_of_ble_eq_true rfl⟩) (cPV hK hTE hP hD 2 rfl (at_2 hy14.2) ⟨hy14.2, hy15⟩) rfl rfl hl.1 rfl (lv_room (Nat.le_of_ble_eq_true rfl)) dX0_enact_54 ⟨(show S.1 - S0.1 ≤ lc - S0.1 from Nat.sub_le_sub_right hZ.2.2.1 _), (show S.2.1 - S0.2.1 ≤ ls - S0.2.1 from Nat.sub_le_sub_right hZ.2.2.2 _)⟩) hP hD hS hA (fun u16 H locs hv hP hD hS => ?_)
    obtain ⟨hv, hz⟩ := hv
    have hZ := hZ.k hz
    refine cCells (cells' := u16.1 - S0.1) (slots' := u16.2.1 - S0.2.1) (by have e : S.1 = u16.1 := hz.1.1; show S.1 - S0.1 + 0 = _; omega) (by have e : S.2.1 = u16.2.1 := hz.1.2; show S.2.1 - S0.2.1 + 0 = _; omega) ?_
    rw [← hv] at hE hp
    dsimp only at hE hp
    exact B_Y0_enact_57a u16 ad x1 x2 x3 x4 x5 x6 _ _ _ hE hp hZ hP hD hS (lv_sub hl [0, 1, 2, 3, 4, 5, 6] rfl)
  have B_Y0_enact_39a : ∀ (S : Cst) (ad : Nat → Nat) (x1 : Int32) (x2 : Int32) (x3 : Int32) (x4 : Int32) (x5 : Int32) (y0 : Int32) (H : Heap) (locs : List Loc) (ls_ : Array Slot), b_Y0_enact_39a S x0 x1 x2 x3 x4 x5 y0 = X → q_Y0_enact_39a S x0 lc ls x1 x2 x3 x4 x5 y0 → nH S0 ad0 lc ls S ad → va_P G vwCl (wsC K ad S) H → va_D A (wsC K ad S) → va_S A s.heap H locs → lv_has ls_ 7 [(0, .ref (ad x0)), (1, .int x1), (2, .int x2), (3, .int x3), (4, .int x4), (5, .int x5)] → W p l e ({ frames := 7, cells := lc - S0.1, slots := ls - S0.2.1, locals := 200 } : Room) s m #[Value.ref (ad0 x0), Value.int a1, Value.int a2, Value.int a3, Value.int a4, Value.int a5] below meth c H locs (S.1 - S0.1) (S.2.1 - S0.2.1) Q (F0 m 39 ls_ [.int y0]) := by
    intro S ad x1 x2 x3 x4 x5 y0 H locs ls_ hE hp hZ hP hD hS hl
    unfold b_Y0_enact_39a at hE
    unfold q_Y0_enact_39a at hp
    refine lv_istore (i := 6) (lv' := [(6, .int y0), (0, .ref (ad x0)), (1, .int x1), (2, .int x2), (3, .int x3), (4, .int x4), (5, .int x5)]) hx hb dX0_enact_39 hl (by decide) rfl (fun ls_ hl => ?_)
    refine lv_aload_n hx hb dX0_enact_41 rfl (lv_at hl 1 rfl) ?_
    refine va_get (D := G) (ci := 0) (v := va_re ad (grC S x0 4)) (C := RX0) (T := TX0) (N := 11) hx hb hts iX0 hown hK hP x0 (at_0 (k_x0.n hZ.1)) rfl 4 (by decide) (hw (.fieldLink RX0 41 "MotionFloor$Assembly" "minutes" "LMotionFloor$Ledger;") (List.mem_of_getElem? (i := 7) rfl)) (fun _ h9 => h9) rfl dX0_enact_42 ?_
    obtain ⟨hy9, hp⟩ := hp
    refine cTop (r := (grC S x0 4)) hy9.1 ?_
    obtain ⟨hy10, hp⟩ := hp
    obtain ⟨hy11, hp⟩ := hp
    refine cNov (va_runV (As := []) (rest := []) ⟨hx, hb, hml, hown, hts⟩ (c_Y3_open l G K ad S ((grC S x0 4).getD 0) (f_Y3_open S ((grC S x0 4).getD 0)).2.1 (f_Y3_open S ((grC S x0 4).getD 0)).2.2.1 _) (cwV 0 hts (wGV t_ (mw (.methodLink RX0 166 yX3_open) (List.mem_of_getElem? (i := 8) rfl)) (mw (.instanceMethod yX3_open) (List.mem_of_getElem? (i := 9) rfl)) (mw (.selects RX3 yX3_open yX3_open) (List.mem_of_getElem? (i := 10) rfl)) (mw (.initialized RX3) (List.mem_of_getElem? (i := 11) rfl)) j_Y3_open) rfl rfl rfl (by decide +kernel) ⟨Nat.le_of_ble_eq_true rfl, Nat.le_of_ble_eq_true rfl⟩) (cPV hK hTE hP hD 2 rfl (at_2 hy9.2) ⟨⟨hy10.1.1, hy10.2.1⟩, hy9.2, hy11⟩) rfl rfl hl.1 rfl (lv_room (Nat.le_of_ble_eq_true rfl)) dX0_enact_45 ⟨by show _ ≤ lc - S0.1; have := hZ.1.1.1; have := hy10.1; omega, by show _ ≤ ls - S0.2.1; have := hZ.1.1.2; have := hy10.2; omega⟩) hP hD hS hA (fun u12 H locs hv hP hD hS => ?_)
    obtain ⟨hv, hz, ha⟩ := hv
    have e1 : (f_Y3_open S ((grC S x0 4).getD 0)).2.1 = u12.1.1 := by rw [← hv]
    have e2 : (f_Y3_open S ((grC S x0 4).getD 0)).2.2.1 = u12.1.2.1 := by rw [← hv]
    refine cCells (cells' := u12.1.1 - S0.1) (slots' := u12.1.2.1 - S0.2.1) (by have := hZ.1.1.1; have := hy10.1; omega) (by have := hZ.1.1.2; have := hy10.2; omega) ?_
    rw [← ha x0 (k_x0.n hZ.1).1] at hl
    have hZ := hZ.n hz ha (by rw [← e1]; exact hy10.1.2) (by rw [← e2]; exact hy10.2.2)
    rw [← hv] at hE hp
    dsimp only at hE hp
    exact B_Y0_enact_48a u12.1 u12.2 x1 x2 x3 x4 x5 y0 _ _ _ hE hp hZ hP hD hS (lv_sub hl [1, 2, 3, 4, 5, 6, 0] rfl)
  have B_Y0_enact_36a : ∀ (S : Cst) (ad : Nat → Nat) (x1 : Int32) (x2 : Int32) (x3 : Int32) (x4 : Int32) (x5 : Int32) (y0 : Int32) (y1 : Int32) (y2 : Int32) (y3 : Int32) (y4 : Int32) (H : Heap) (locs : List Loc) (ls_ : Array Slot), b_Y0_enact_36a S x0 x1 x2 x3 x4 x5 y0 y1 y2 y3 y4 = X → q_Y0_enact_36a S x0 lc ls x1 x2 x3 x4 x5 y0 y1 y2 y3 y4 → nH S0 ad0 lc ls S ad → va_P G vwCl (wsC K ad S) H → va_D A (wsC K ad S) → va_S A s.heap H locs → lv_has ls_ 7 [(0, .ref (ad x0)), (1, .int x1), (2, .int x2), (3, .int x3), (4, .int x4), (5, .int x5)] → W p l e ({ frames := 7, cells := lc - S0.1, slots := ls - S0.2.1, locals := 200 } : Room) s m #[Value.ref (ad0 x0), Value.int a1, Value.int a2, Value.int a3, Value.int a4, Value.int a5] below meth c H locs (S.1 - S0.1) (S.2.1 - S0.2.1) Q (F0 m 36 ls_ [.int y0, .int y1, .int y2, .int y3, .int y4, .ref (ad x0)]) := by
    intro S ad x1 x2 x3 x4 x5 y0 y1 y2 y3 y4 H locs ls_ hE hp hZ hP hD hS hl
    unfold b_Y0_enact_36a at hE
    unfold q_Y0_enact_36a at hp
    obtain ⟨hy5, hp⟩ := hp
    obtain ⟨hy6, hp⟩ := hp
    refine cNoi (va_runS (As := [.ref (ad x0), .int y4, .int y3, .int y2, .int y1, .int y0]) (rest := []) ⟨hx, hb, hml, hown, hts⟩ (c_Y1_perform l G K ad S x0 (f_Y1_perform S x0 y4 y3 y2 y1 y0).2.1 (f_Y1_perform S x0 y4 y3 y2 y1 y0).2.2.1 y4 y3 y2 y1 y0 _) (va_cwS 6 hts (wGS t_ (mw (.methodLink RX0 161 yX1_perform) (List.mem_of_getElem? (i := 4) rfl)) (mw (.static yX1_perform) (List.mem_of_getElem? (i := 5) rfl)) (mw (.initialized RX1) (List.mem_of_getElem? (i := 6) rfl)) j_Y1_perform) rfl rfl rfl (by decide +kernel) ⟨Nat.le_of_ble_eq_true rfl, Nat.le_of_ble_eq_true rfl⟩) (cPS hK hTE hP hD ⟨⟨hy5.1.1, hy5.2.1⟩, (k_x0.n hZ.1), hy6⟩) rfl rfl hl.1 rfl (lv_room (Nat.le_of_ble_eq_true rfl)) dX0_enact_36 ⟨by show _ ≤ lc - S0.1; have := hZ.1.1.1; have := hy5.1; omega, by show _ ≤ ls - S0.2.1; have := hZ.1.1.2; have := hy5.2; omega⟩) hP hD hS hA (fun r8 u7 H locs hv hP hD hS => ?_)
    obtain ⟨hv, hz, ha⟩ := hv
    have e1 : (f_Y1_perform S x0 y4 y3 y2 y1 y0).2.1 = u7.1.1 := by rw [← hv]
    have e2 : (f_Y1_perform S x0 y4 y3 y2 y1 y0).2.2.1 = u7.1.2.1 := by rw [← hv]
    refine cCells (cells' := u7.1.1 - S0.1) (slots' := u7.1.2.1 - S0.2.1) (by have := hZ.1.1.1; have := hy5.1; omega) (by have := hZ.1.1.2; have := hy5.2; omega) ?_
    rw [← ha x0 (k_x0.n hZ.1).1] at hl
    have hZ := hZ.n hz ha (by rw [← e1]; exact hy5.1.2) (by rw [← e2]; exact hy5.2.2)
    rw [← hv] at hE hp
    dsimp only at hE hp
    exact B_Y0_enact_39a u7.1 u7.2 x1 x2 x3 x4 x5 r8 _ _ _ hE hp hZ hP hD hS (lv_sub hl [0, 1, 2, 3, 4, 5] rfl)
  have B_M : ∀ (S : Cst) (ad : Nat → Nat) (x1 : Int32) (x2 : Int32) (x3 : Int32) (x4 : Int32) (x5 : Int32) (H : Heap) (locs : List Loc) (ls_ : Array Slot), f_Y0_enact S x0 x1 x2 x3 x4 x5 = X → p_Y0_enact S x0 lc ls x1 x2 x3 x4 x5 → nH S0 ad0 lc ls S ad → va_P G vwCl (wsC K ad S) H → va_D A (wsC K ad S) → va_S A s.heap H locs → lv_has ls_ 7 [(0, .ref (ad x0)), (1, .int x1), (2, .int x2), (3, .int x3), (4, .int x4), (5, .int x5)] → W p l e ({ frames := 7, cells := lc - S0.1, slots := ls - S0.2.1, locals := 200 } : Room) s m #[Value.ref (ad0 x0), Value.int a1, Value.int a2, Value.int a3, Value.int a4, Value.int a5] below meth c H locs (S.1 - S0.1) (S.2.1 - S0.2.1) Q (F0 m 0 ls_ []) := by
    intro S ad x1 x2 x3 x4 x5 H locs ls_ hE hp hZ hP hD hS hl
    unfold f_Y0_enact at hE
    unfold p_Y0_enact at hp
    refine lv_aload_n hx hb dX0_enact_0 rfl (lv_at hl 0 rfl) ?_
    refine lv_aload_n hx hb dX0_enact_1 rfl (lv_at hl 0 rfl) ?_
    refine lv_iload_n hx hb dX0_enact_2 rfl (lv_at hl 1 rfl) ?_
    refine lv_iload_n hx hb dX0_enact_3 rfl (lv_at hl 2 rfl) ?_
    refine lv_iload_n hx hb dX0_enact_4 rfl (lv_at hl 3 rfl) ?_
    refine lv_iload hx hb dX0_enact_5 (lv_at hl 4 rfl) ?_
    refine lv_iload hx hb dX0_enact_7 (lv_at hl 5 rfl) ?_
    obtain ⟨hy1, hp⟩ := hp
    refine cGoi (va_runS (As := [.ref (ad x0), .int x1, .int x2, .int x3, .int x4, .int x5]) (rest := [.ref (ad x0)]) ⟨hx, hb, hml, hown, hts⟩ (c_Y8_against l G K ad S x0 x1 x2 x3 x4 x5 _) (va_cwS 6 hts (wGS t_ (mw (.methodLink RX0 155 yX8_against) (List.mem_of_getElem? (i := 0) rfl)) (mw (.static yX8_against) (List.mem_of_getElem? (i := 1) rfl)) (mw (.initialized RX8) (List.mem_of_getElem? (i := 2) rfl)) j_Y8_against) rfl rfl rfl (by decide +kernel) ⟨Nat.le_of_ble_eq_true rfl, Nat.le_of_ble_eq_true rfl⟩) (cPS hK hTE hP hD ⟨(k_x0.n hZ.1), hy1⟩) rfl rfl hl.1 rfl (lv_room (Nat.le_of_ble_eq_true rfl)) dX0_enact_9 ⟨(show S.1 - S0.1 ≤ lc - S0.1 from Nat.sub_le_sub_right hZ.2.2.1 _), (show S.2.1 - S0.2.1 ≤ ls - S0.2.1 from Nat.sub_le_sub_right hZ.2.2.2 _)⟩) hP hD hS hA (fun r3 u2 H locs hv hP hD hS => ?_)
    have h1 := congrArg Prod.fst hv
    have h2 := (congrArg Prod.snd hv).symm
    dsimp only at h1 h2
    subst h1
    subst h2
    refine va_put (D := G) (ci := 0) (v := .int (f_Y8_against S x0 x1 x2 x3 x4 x5)) (ty := .int) (C := RX0) (T := TX0) (N := 11) hx hb hts iX0 tyX0 tyX0_ok nmX0 hown hK hP hD hS x0 (at_0 (k_x0.n hZ.1)) rfl 9 (by decide) (hw (.fieldLink RX0 73 "MotionFloor$Assembly" "reason" "I") (List.mem_of_getElem? (i := 3) rfl)) (fun _ h9 => h9) rfl (by decide +kernel) rfl rfl (Nat.le_of_ble_eq_true rfl) dX0_enact_12 (fun H locs hP hD hS => ?_)
    rw [st_0_9 (k_x0.n hZ.1)] at hP hD
    have hZ := hZ.k (eK.si S x0 9 (f_Y8_against S x0 x1 x2 x3 x4 x5))
    refine lv_aload_n hx hb dX0_enact_15 rfl (lv_at hl 0 rfl) ?_
    refine va_get (D := G) (ci := 0) (v := .int (giC (siC S x0 9 (f_Y8_against S x0 x1 x2 x3 x4 x5)) x0 9)) (C := RX0) (T := TX0) (N := 11) hx hb hts iX0 hown hK hP x0 (at_0 (k_x0.n hZ.1)) rfl 9 (by decide) (hw (.fieldLink RX0 73 "MotionFloor$Assembly" "reason" "I") (List.mem_of_getElem? (i := 3) rfl)) (fun _ h9 => h9) rfl dX0_enact_16 ?_
    refine lv_if_eq (tgt := 28) hx hb dX0_enact_19 (by decide) (fun c4 => ?_) (fun c4 => ?_)
    · rw [if_pos c4] at hE hp
      refine lv_aload_n hx hb dX0_enact_28 rfl (lv_at hl 0 rfl) ?_
      refine lv_iload_n hx hb dX0_enact_29 rfl (lv_at hl 1 rfl) ?_
      refine lv_iload_n hx hb dX0_enact_30 rfl (lv_at hl 2 rfl) ?_
      refine lv_iload_n hx hb dX0_enact_31 rfl (lv_at hl 3 rfl) ?_
      refine lv_iload hx hb dX0_enact_32 (lv_at hl 4 rfl) ?_
      refine lv_iload hx hb dX0_enact_34 (lv_at hl 5 rfl) ?_
      exact B_Y0_enact_36a (siC S x0 9 (f_Y8_against S x0 x1 x2 x3 x4 x5)) ad x1 x2 x3 x4 x5 x5 x4 x3 x2 x1 _ _ _ hE hp hZ hP hD hS (lv_sub hl [0, 1, 2, 3, 4, 5] rfl)
    · rw [if_neg c4] at hE hp
      refine lv_aload_n hx hb dX0_enact_22 rfl (lv_at hl 0 rfl) ?_
      refine va_get (D := G) (ci := 0) (v := .int (giC (siC S x0 9 (f_Y8_against S x0 x1 x2 x3 x4 x5)) x0 9)) (C := RX0) (T := TX0) (N := 11) hx hb hts iX0 hown hK hP x0 (at_0 (k_x0.n hZ.1)) rfl 9 (by decide) (hw (.fieldLink RX0 73 "MotionFloor$Assembly" "reason" "I") (List.mem_of_getElem? (i := 3) rfl)) (fun _ h9 => h9) rfl dX0_enact_23 ?_
      refine lv_ineg hx hb dX0_enact_26 ?_
      refine W.widen (k := lc - S0.1) (n := ls - S0.2.1) (show S.1 - S0.1 ≤ lc - S0.1 from Nat.sub_le_sub_right hZ.2.2.1 _) (show S.2.1 - S0.2.1 ≤ ls - S0.2.1 from Nat.sub_le_sub_right hZ.2.2.2 _) ?_
      subst hQ
      exact W.iret (v := (-(giC (siC S x0 9 (f_Y8_against S x0 x1 x2 x3 x4 x5)) x0 9))) hx hb hr (fun t ht hW => ⟨⟨(-(giC (siC S x0 9 (f_Y8_against S x0 x1 x2 x3 x4 x5)) x0 9)), ((siC S x0 9 (f_Y8_against S x0 x1 x2 x3 x4 x5)), ad), rfl, ⟨hE.trans hX.symm, hZ.1, hZ.2.1⟩, by rw [ht]; exact hP, hD⟩, hS.F ht⟩) hS.2.2 dX0_enact_27
  exact cCells (Nat.sub_self _).symm (Nat.sub_self _).symm (B_M S0 ad0 a1 a2 a3 a4 a5 _ _ _ hX hp (nH.rf S0 ad0 k_l) hP hD hS hl)
