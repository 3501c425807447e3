theorem gdX7_amend_34 : ckS (List.drop 34 cX7_amend.data.toList) 34 [(34, .iconst (-1), 1), (35, .istore 6, 2), (37, .iload 6, 2), (39, .bipush 8, 2), (41, .if_icmp .ge 79, 3), (44, .iload 6, 2), (46, .ifCond .ge 13, 3), (49, .aload_n 0, 1), (50, .getfield 140, 3), (53, .invokevirtual 144, 3), (56, .goto 13, 3), (59, .aload_n 0, 1), (60, .getfield 150, 3), (63, .iload 6, 2), (65, .aaload, 1), (66, .invokevirtual 144, 3), (69, .astore 7, 2), (71, .aload 7, 2), (73, .ifnull 41, 3), (76, .aload 7, 2), (78, .getfield 154, 3), (81, .ifCond .eq 33, 3), (84, .aload 7, 2), (86, .invokevirtual 122, 3), (89, .ifCond .eq 25, 3), (92, .aload 7, 2), (94, .getfield 157, 3), (97, .aload_n 1, 1), (98, .getfield 160, 3), (101, .if_icmp .ne 13, 3), (104, .aload 7, 2), (106, .iload_n 3, 1), (107, .iload 4, 2), (109, .iload 5, 2), (111, .invokevirtual 163, 3), (114, .iinc 6 1, 3), (117, .goto (-80), 3), (120, .return_, 1)] = true := by decide +kernel
theorem dX7_amend_34 : decode cX7_amend 34 = .ok (.iconst (-1), 1) := ckS_g gdX7_amend_34 0 rfl
theorem dX7_amend_35 : decode cX7_amend 35 = .ok (.istore 6, 2) := ckS_g gdX7_amend_34 1 rfl
theorem dX7_amend_37 : decode cX7_amend 37 = .ok (.iload 6, 2) := ckS_g gdX7_amend_34 2 rfl
theorem dX7_amend_39 : decode cX7_amend 39 = .ok (.bipush 8, 2) := ckS_g gdX7_amend_34 3 rfl
theorem dX7_amend_41 : decode cX7_amend 41 = .ok (.if_icmp .ge 79, 3) := ckS_g gdX7_amend_34 4 rfl
theorem dX7_amend_44 : decode cX7_amend 44 = .ok (.iload 6, 2) := ckS_g gdX7_amend_34 5 rfl
theorem dX7_amend_46 : decode cX7_amend 46 = .ok (.ifCond .ge 13, 3) := ckS_g gdX7_amend_34 6 rfl
theorem dX7_amend_49 : decode cX7_amend 49 = .ok (.aload_n 0, 1) := ckS_g gdX7_amend_34 7 rfl
theorem dX7_amend_50 : decode cX7_amend 50 = .ok (.getfield 140, 3) := ckS_g gdX7_amend_34 8 rfl
theorem dX7_amend_53 : decode cX7_amend 53 = .ok (.invokevirtual 144, 3) := ckS_g gdX7_amend_34 9 rfl
theorem dX7_amend_56 : decode cX7_amend 56 = .ok (.goto 13, 3) := ckS_g gdX7_amend_34 10 rfl
theorem dX7_amend_59 : decode cX7_amend 59 = .ok (.aload_n 0, 1) := ckS_g gdX7_amend_34 11 rfl
theorem dX7_amend_60 : decode cX7_amend 60 = .ok (.getfield 150, 3) := ckS_g gdX7_amend_34 12 rfl
theorem dX7_amend_63 : decode cX7_amend 63 = .ok (.iload 6, 2) := ckS_g gdX7_amend_34 13 rfl
theorem dX7_amend_65 : decode cX7_amend 65 = .ok (.aaload, 1) := ckS_g gdX7_amend_34 14 rfl
theorem dX7_amend_66 : decode cX7_amend 66 = .ok (.invokevirtual 144, 3) := ckS_g gdX7_amend_34 15 rfl
theorem dX7_amend_69 : decode cX7_amend 69 = .ok (.astore 7, 2) := ckS_g gdX7_amend_34 16 rfl
theorem dX7_amend_71 : decode cX7_amend 71 = .ok (.aload 7, 2) := ckS_g gdX7_amend_34 17 rfl
theorem dX7_amend_73 : decode cX7_amend 73 = .ok (.ifnull 41, 3) := ckS_g gdX7_amend_34 18 rfl
theorem dX7_amend_76 : decode cX7_amend 76 = .ok (.aload 7, 2) := ckS_g gdX7_amend_34 19 rfl
theorem dX7_amend_78 : decode cX7_amend 78 = .ok (.getfield 154, 3) := ckS_g gdX7_amend_34 20 rfl
theorem dX7_amend_81 : decode cX7_amend 81 = .ok (.ifCond .eq 33, 3) := ckS_g gdX7_amend_34 21 rfl
theorem dX7_amend_84 : decode cX7_amend 84 = .ok (.aload 7, 2) := ckS_g gdX7_amend_34 22 rfl
theorem dX7_amend_86 : decode cX7_amend 86 = .ok (.invokevirtual 122, 3) := ckS_g gdX7_amend_34 23 rfl
theorem dX7_amend_89 : decode cX7_amend 89 = .ok (.ifCond .eq 25, 3) := ckS_g gdX7_amend_34 24 rfl
theorem dX7_amend_92 : decode cX7_amend 92 = .ok (.aload 7, 2) := ckS_g gdX7_amend_34 25 rfl
theorem dX7_amend_94 : decode cX7_amend 94 = .ok (.getfield 157, 3) := ckS_g gdX7_amend_34 26 rfl
theorem dX7_amend_97 : decode cX7_amend 97 = .ok (.aload_n 1, 1) := ckS_g gdX7_amend_34 27 rfl
theorem dX7_amend_98 : decode cX7_amend 98 = .ok (.getfield 160, 3) := ckS_g gdX7_amend_34 28 rfl
theorem dX7_amend_101 : decode cX7_amend 101 = .ok (.if_icmp .ne 13, 3) := ckS_g gdX7_amend_34 29 rfl
theorem dX7_amend_104 : decode cX7_amend 104 = .ok (.aload 7, 2) := ckS_g gdX7_amend_34 30 rfl
theorem dX7_amend_106 : decode cX7_amend 106 = .ok (.iload_n 3, 1) := ckS_g gdX7_amend_34 31 rfl
theorem dX7_amend_107 : decode cX7_amend 107 = .ok (.iload 4, 2) := ckS_g gdX7_amend_34 32 rfl
theorem dX7_amend_109 : decode cX7_amend 109 = .ok (.iload 5, 2) := ckS_g gdX7_amend_34 33 rfl
theorem dX7_amend_111 : decode cX7_amend 111 = .ok (.invokevirtual 163, 3) := ckS_g gdX7_amend_34 34 rfl
theorem dX7_amend_114 : decode cX7_amend 114 = .ok (.iinc 6 1, 3) := ckS_g gdX7_amend_34 35 rfl
theorem dX7_amend_117 : decode cX7_amend 117 = .ok (.goto (-80), 3) := ckS_g gdX7_amend_34 36 rfl
theorem dX7_amend_120 : decode cX7_amend 120 = .ok (.return_, 1) := ckS_g gdX7_amend_34 37 rfl
set_option maxRecDepth 100000 in
theorem zc317 : wZ (.fieldLink RX7 140 "MotionFloor$Assembly" "draft" "LMotionFloor$Place;") := ⟨wT1 (List.mem_of_getElem? (i := 189) (by decide +kernel)), Or.inl rfl⟩
set_option maxRecDepth 100000 in
theorem zc318 : wZ (.selects RX4 yX4_follow yX4_follow) := ⟨wT4 (List.mem_of_getElem? (i := 20) (by decide +kernel)), Or.inl rfl⟩
set_option maxRecDepth 100000 in
theorem zc319 : wZ (.instanceMethod yX4_follow) := ⟨wT4 (List.mem_of_getElem? (i := 19) (by decide +kernel)), Or.inl rfl⟩
set_option maxRecDepth 100000 in
theorem zc320 : wZ (.methodLink RX7 163 yX4_follow) := ⟨wT4 (List.mem_of_getElem? (i := 18) (by decide +kernel)), Or.inl rfl⟩
set_option maxRecDepth 100000 in
theorem zc321 : wZ (.fieldLink RX7 160 "MotionFloor$Motion" "name" "I") := ⟨wT3 (List.mem_of_getElem? (i := 7) (by decide +kernel)), Or.inl rfl⟩
set_option maxRecDepth 100000 in
theorem zc322 : wZ (.fieldLink RX7 157 "MotionFloor$Motion" "subject" "I") := ⟨wT3 (List.mem_of_getElem? (i := 11) (by decide +kernel)), Or.inl rfl⟩
set_option maxRecDepth 100000 in
theorem zc323 : wZ (.methodLink RX7 122 yX4_amends) := ⟨wT4 (List.mem_of_getElem? (i := 8) (by decide +kernel)), Or.inl rfl⟩
set_option maxRecDepth 100000 in
theorem zc324 : wZ (.fieldLink RX7 154 "MotionFloor$Motion" "laid" "Z") := ⟨wT3 (List.mem_of_getElem? (i := 47) (by decide +kernel)), Or.inl rfl⟩
set_option maxRecDepth 100000 in
theorem zc325 : wZ (.methodLink RX7 144 yX6_motion) := ⟨wT4 (List.mem_of_getElem? (i := 17) (by decide +kernel)), Or.inl rfl⟩
set_option maxRecDepth 100000 in
theorem zc326 : wZ (.fieldLink RX7 150 "MotionFloor$Assembly" "desk" "[LMotionFloor$Place;") := ⟨wT1 (List.mem_of_getElem? (i := 193) (by decide +kernel)), Or.inl rfl⟩
set_option maxRecDepth 100000 in
theorem zc327 : wZ (.selects RX9 yX9_replace yX9_replace) := ⟨wT4 (List.mem_of_getElem? (i := 14) (by decide +kernel)), Or.inl rfl⟩
set_option maxRecDepth 100000 in
theorem zc328 : wZ (.instanceMethod yX9_replace) := ⟨wT4 (List.mem_of_getElem? (i := 13) (by decide +kernel)), Or.inl rfl⟩
set_option maxRecDepth 100000 in
theorem zc329 : wZ (.methodLink RX7 136 yX9_replace) := ⟨wT4 (List.mem_of_getElem? (i := 12) (by decide +kernel)), Or.inl rfl⟩
set_option maxRecDepth 100000 in
theorem zc330 : wZ (.fieldLink RX7 135 "MotionFloor$Text" "size" "I") := ⟨wT1 (List.mem_of_getElem? (i := 156) (by decide +kernel)), Or.inl rfl⟩
set_option maxRecDepth 100000 in
theorem zc331 : wZ (.fieldLink RX7 103 "MotionFloor$Motion" "text" "LMotionFloor$Text;") := ⟨wT3 (List.mem_of_getElem? (i := 55) (by decide +kernel)), Or.inl rfl⟩
set_option maxRecDepth 100000 in
theorem zc332 : wZ (.fieldLink RX7 132 "MotionFloor$Motion" "to" "I") := ⟨wT3 (List.mem_of_getElem? (i := 42) (by decide +kernel)), Or.inl rfl⟩
set_option maxRecDepth 100000 in
theorem zc333 : wZ (.fieldLink RX7 129 "MotionFloor$Motion" "from" "I") := ⟨wT3 (List.mem_of_getElem? (i := 37) (by decide +kernel)), Or.inl rfl⟩
set_option maxRecDepth 100000 in
theorem zc334 : wZ (.code yX7_amend cX7_amend 8 none) := ⟨wT4 (List.mem_of_getElem? (i := 11) rfl), Or.inl rfl⟩
def b_Y7_amend_114 (S : Cst) (x0 : Nat) (x1 : Option Nat) (x2 : Option Nat) (x3 : Int32) (x4 : Int32) (x5 : Int32) (x6 : Int32) (x7 : Option Nat) : (Int32 × Cst) ⊕ (Cst × (Option Nat) × (Option Nat) × Int32 × Int32 × Int32 × Int32) := Sum.inr (S, x1, x2, x3, x4, x5, (x6 + 1))
def q_Y7_amend_114 (S : Cst) (x0 : Nat) (x1 : Option Nat) (x2 : Option Nat) (x3 : Int32) (x4 : Int32) (x5 : Int32) (x6 : Int32) (x7 : Option Nat) : Prop := True
def b_Y7_amend_69a (S : Cst) (x0 : Nat) (x1 : Option Nat) (x2 : Option Nat) (x3 : Int32) (x4 : Int32) (x5 : Int32) (x6 : Int32) (o0 : Option Nat) : (Int32 × Cst) ⊕ (Cst × (Option Nat) × (Option Nat) × Int32 × Int32 × Int32 × Int32) := if o0 = none then (b_Y7_amend_114 S x0 x1 x2 x3 x4 x5 x6 o0) else if (giC S (o0.getD 0) 10) = 0 then (b_Y7_amend_114 S x0 x1 x2 x3 x4 x5 x6 o0) else if (f_Y4_amends S (o0.getD 0)) = 0 then (b_Y7_amend_114 S x0 x1 x2 x3 x4 x5 x6 o0) else if (giC S (o0.getD 0) 1) = (giC S (x1.getD 0) 0) then (b_Y7_amend_114 ((f_Y4_follow S (o0.getD 0) x3 x4 x5).2) x0 x1 x2 x3 x4 x5 x6 o0) else (b_Y7_amend_114 S x0 x1 x2 x3 x4 x5 x6 o0)
def q_Y7_amend_69a (S : Cst) (x0 : Nat) (x1 : Option Nat) (x2 : Option Nat) (x3 : Int32) (x4 : Int32) (x5 : Int32) (x6 : Int32) (o0 : Option Nat) : Prop := (if o0 = none then (q_Y7_amend_114 S x0 x1 x2 x3 x4 x5 x6 o0) else (iR S o0 3) ∧ (if (giC S (o0.getD 0) 10) = 0 then (q_Y7_amend_114 S x0 x1 x2 x3 x4 x5 x6 o0) else (iR S o0 3) ∧ (p_Y4_amends S (o0.getD 0)) ∧ (if (f_Y4_amends S (o0.getD 0)) = 0 then (q_Y7_amend_114 S x0 x1 x2 x3 x4 x5 x6 o0) else (iR S o0 3) ∧ (iR S x1 3) ∧ (if (giC S (o0.getD 0) 1) = (giC S (x1.getD 0) 0) then (iR S o0 3) ∧ (p_Y4_follow S (o0.getD 0) x3 x4 x5) ∧ (q_Y7_amend_114 ((f_Y4_follow S (o0.getD 0) x3 x4 x5).2) x0 x1 x2 x3 x4 x5 x6 o0) else (q_Y7_amend_114 S x0 x1 x2 x3 x4 x5 x6 o0)))))
def st_Y7_amend_37 (S : Cst) (x0 : Nat) (x1 : Option Nat) (x2 : Option Nat) (x3 : Int32) (x4 : Int32) (x5 : Int32) (x6 : Int32) : (Int32 × Cst) ⊕ (Cst × (Option Nat) × (Option Nat) × Int32 × Int32 × Int32 × Int32) := if 8 ≤ x6 then Sum.inl ((0, S)) else if 0 ≤ x6 then (b_Y7_amend_69a S x0 x1 x2 x3 x4 x5 x6 (f_Y6_motion S ((grC S ((grC S x0 3).getD 0) x6.toNatClampNeg).getD 0))) else (b_Y7_amend_69a S x0 x1 x2 x3 x4 x5 x6 (f_Y6_motion S ((grC S x0 2).getD 0)))
def ps_Y7_amend_37 (S : Cst) (x0 : Nat) (x1 : Option Nat) (x2 : Option Nat) (x3 : Int32) (x4 : Int32) (x5 : Int32) (x6 : Int32) : Prop := (if 8 ≤ x6 then True else (if 0 ≤ x6 then (iR S (grC S x0 3) 24) ∧ (vp_in x6 (lnC S ((grC S x0 3).getD 0))) ∧ (iR S (grC S ((grC S x0 3).getD 0) x6.toNatClampNeg) 5) ∧ (p_Y6_motion S ((grC S ((grC S x0 3).getD 0) x6.toNatClampNeg).getD 0)) ∧ (q_Y7_amend_69a S x0 x1 x2 x3 x4 x5 x6 (f_Y6_motion S ((grC S ((grC S x0 3).getD 0) x6.toNatClampNeg).getD 0))) else (iR S (grC S x0 2) 5) ∧ (p_Y6_motion S ((grC S x0 2).getD 0)) ∧ (q_Y7_amend_69a S x0 x1 x2 x3 x4 x5 x6 (f_Y6_motion S ((grC S x0 2).getD 0)))))
def lp_Y7_amend_37 (x0 : Nat) : Nat → Cst → (Option Nat) → (Option Nat) → Int32 → Int32 → Int32 → Int32 → Int32 × Cst
  | 0, S, _, _, _, _, _, _ => (0, S)
  | n + 1, S, x1, x2, x3, x4, x5, x6 => match st_Y7_amend_37 S x0 x1 x2 x3 x4 x5 x6 with
    | Sum.inl r => r
    | Sum.inr q => lp_Y7_amend_37 x0 n q.1 q.2.1 q.2.2.1 q.2.2.2.1 q.2.2.2.2.1 q.2.2.2.2.2.1 q.2.2.2.2.2.2
def lq_Y7_amend_37 (x0 : Nat) : Nat → Cst → (Option Nat) → (Option Nat) → Int32 → Int32 → Int32 → Int32 → Prop
  | 0, _, _, _, _, _, _, _ => False
  | n + 1, S, x1, x2, x3, x4, x5, x6 => ps_Y7_amend_37 S x0 x1 x2 x3 x4 x5 x6 ∧ (match st_Y7_amend_37 S x0 x1 x2 x3 x4 x5 x6 with
    | Sum.inl _ => True
    | Sum.inr q => lq_Y7_amend_37 x0 n q.1 q.2.1 q.2.2.1 q.2.2.2.1 q.2.2.2.2.1 q.2.2.2.2.2.1 q.2.2.2.2.2.2)
def b_Y7_amend_34a (S : Cst) (x0 : Nat) (x1 : Option Nat) (x2 : Option Nat) (x3 : Int32) (x4 : Int32) (x5 : Int32) : Int32 × Cst := (lp_Y7_amend_37 x0 100000 S x1 x2 x3 x4 x5 (-1))
def q_Y7_amend_34a (S : Cst) (x0 : Nat) (x1 : Option Nat) (x2 : Option Nat) (x3 : Int32) (x4 : Int32) (x5 : Int32) : Prop := (lq_Y7_amend_37 x0 100000 S x1 x2 x3 x4 x5 (-1))
def f_Y7_amend (S : Cst) (x0 : Nat) (x1 : Option Nat) (x2 : Option Nat) : Int32 × Cst := (b_Y7_amend_34a ((f_Y9_replace S ((grC S (x1.getD 0) 12).getD 0) ((grC S (x2.getD 0) 12).getD 0) (giC S (x2.getD 0) 8) (giC S (x2.getD 0) 9)).2) x0 x1 x2 (giC S (x2.getD 0) 8) (giC S (x2.getD 0) 9) (giC S ((grC S (x2.getD 0) 12).getD 0) 1))
def p_Y7_amend (S : Cst) (x0 : Nat) (x1 : Option Nat) (x2 : Option Nat) : Prop := (iR S x2 3) ∧ (iR S x2 3) ∧ (iR S x2 3) ∧ (iR S (grC S (x2.getD 0) 12) 6) ∧ (iR S x1 3) ∧ (iR S x2 3) ∧ (iR S (grC S (x1.getD 0) 12) 6) ∧ (iR S (grC S (x2.getD 0) 12) 6) ∧ (p_Y9_replace S ((grC S (x1.getD 0) 12).getD 0) ((grC S (x2.getD 0) 12).getD 0) (giC S (x2.getD 0) 8) (giC S (x2.getD 0) 9)) ∧ (q_Y7_amend_34a ((f_Y9_replace S ((grC S (x1.getD 0) 12).getD 0) ((grC S (x2.getD 0) 12).getD 0) (giC S (x2.getD 0) 8) (giC S (x2.getD 0) 9)).2) x0 x1 x2 (giC S (x2.getD 0) 8) (giC S (x2.getD 0) 9) (giC S ((grC S (x2.getD 0) 12).getD 0) 1))
def e_Y7_amend : List Cond := [.fieldLink RX7 129 "MotionFloor$Motion" "from" "I", .fieldLink RX7 132 "MotionFloor$Motion" "to" "I", .fieldLink RX7 103 "MotionFloor$Motion" "text" "LMotionFloor$Text;", .fieldLink RX7 135 "MotionFloor$Text" "size" "I", .methodLink RX7 136 yX9_replace, .instanceMethod yX9_replace, .selects RX9 yX9_replace yX9_replace, .initialized RX9, .fieldLink RX7 150 "MotionFloor$Assembly" "desk" "[LMotionFloor$Place;", .methodLink RX7 144 yX6_motion, .instanceMethod yX6_motion, .selects RX6 yX6_motion yX6_motion, .initialized RX6, .fieldLink RX7 154 "MotionFloor$Motion" "laid" "Z", .methodLink RX7 122 yX4_amends, .instanceMethod yX4_amends, .selects RX4 yX4_amends yX4_amends, .initialized RX4, .fieldLink RX7 157 "MotionFloor$Motion" "subject" "I", .fieldLink RX7 160 "MotionFloor$Motion" "name" "I", .methodLink RX7 163 yX4_follow, .instanceMethod yX4_follow, .selects RX4 yX4_follow yX4_follow, .fieldLink RX7 140 "MotionFloor$Assembly" "draft" "LMotionFloor$Place;"]
def v_Y7_amend : List Cond := .code yX7_amend cX7_amend 8 none :: (e_Y7_amend ++ (wsX40 ++ (wsX90 ++ (wsX00 ++ (v_Y9_replace ++ (v_Y6_motion ++ (v_Y4_amends ++ (v_Y4_follow ++ []))))))))
theorem te_Y7_amend : GoodIn lw_tbl e_Y7_amend := wGc zc333 (wGc zc332 (wGc zc331 (wGc zc330 (wGc zc329 (wGc zc328 (wGc zc327 (wGc zc130 (wGc zc326 (wGc zc325 (wGc zc128 (wGc zc127 (wGc zc112 (wGc zc324 (wGc zc323 (wGc zc172 (wGc zc171 (wGc zc170 (wGc zc322 (wGc zc321 (wGc zc320 (wGc zc319 (wGc zc318 (wGc zc317 (wG0))))))))))))))))))))))))
theorem t_Y7_amend : GoodIn lw_tbl v_Y7_amend := wGc zc334 (wGa te_Y7_amend (wGa zcX4 (wGa zcX9 (wGa zcX0 (wGa t_Y9_replace (wGa t_Y6_motion (wGa t_Y4_amends (wGa t_Y4_follow (wG0)))))))))
set_option maxHeartbeats 4000000 in
set_option maxRecDepth 100000 in
theorem c_Y7_amend (l : Launch) (G : va_G) (K : Nat → ClassId) (ad : Nat → Nat) (S0 : Cst) (x0 : Nat) (a1 : Option Nat) (a2 : Option Nat) (sz : Nat) : Met l yX7_amend v_Y7_amend ({ frames := 2, cells := 0, slots := 0, locals := 84 }) (va_Pc [.ref (ad x0), va_re ad a1, va_re ad a2] (cSt G K ad sz S0 (iK S0 x0 0 ∧ p_Y7_amend S0 x0 a1 a2))) (va_Qv (fun u : Cst => (0, u) = f_Y7_amend S0 x0 a1 a2 ∧ eK S0 u) (cBt G K ad (va_A (wsC K ad S0) sz)) (va_A (wsC K ad S0) sz)) 0 0 (va_A (wsC K ad S0) sz) := by
  refine Met.ofW (cc := cX7_amend) (maxL := 8) (ret := none) (by decide) rfl ?_
  intro p e s m args below meth c s₁ B hml hv
  obtain ⟨rfl, ⟨hsz, hP, hK, hD0, hTE⟩, hp⟩ := hv
  obtain ⟨k_x0, hp⟩ := hp
  have hx := B.exec
  have hb := B.bytes
  have hr := B.returns
  have hts := atoms_spec (ws := v_Y7_amend) B.pre
  have t_ := t_Y7_amend
  have mw : ∀ w ∈ e_Y7_amend, w ∈ v_Y7_amend := fun w h => List.mem_cons_of_mem _ (List.mem_append_left _ h)
  have hw := fun w (h : w ∈ e_Y7_amend) => hts w (mw w h)
  have iX4 : ∀ w ∈ wsX40, w ∈ v_Y7_amend := fun w h => List.mem_cons_of_mem _ (List.mem_append_right _ (List.mem_append_left _ h))
  have iX9 : ∀ w ∈ wsX90, w ∈ v_Y7_amend := fun w h => List.mem_cons_of_mem _ (List.mem_append_right _ (List.mem_append_right _ (List.mem_append_left _ h)))
  have iX0 : ∀ w ∈ wsX00, w ∈ v_Y7_amend := fun w h => List.mem_cons_of_mem _ (List.mem_append_right _ (List.mem_append_right _ (List.mem_append_right _ (List.mem_append_left _ h))))
  have j_Y9_replace : ∀ w ∈ v_Y9_replace, w ∈ v_Y7_amend := fun w h => List.mem_cons_of_mem _ (List.mem_append_right _ (List.mem_append_right _ (List.mem_append_right _ (List.mem_append_right _ (List.mem_append_left _ h)))))
  have j_Y6_motion : ∀ w ∈ v_Y6_motion, w ∈ v_Y7_amend := fun w h => List.mem_cons_of_mem _ (List.mem_append_right _ (List.mem_append_right _ (List.mem_append_right _ (List.mem_append_right _ (List.mem_append_right _ (List.mem_append_left _ h))))))
  have j_Y4_amends : ∀ w ∈ v_Y4_amends, w ∈ v_Y7_amend := fun w h => List.mem_cons_of_mem _ (List.mem_append_right _ (List.mem_append_right _ (List.mem_append_right _ (List.mem_append_right _ (List.mem_append_right _ (List.mem_append_right _ (List.mem_append_left _ h)))))))
  have j_Y4_follow : ∀ w ∈ v_Y4_follow, w ∈ v_Y7_amend := fun w h => List.mem_cons_of_mem _ (List.mem_append_right _ (List.mem_append_right _ (List.mem_append_right _ (List.mem_append_right _ (List.mem_append_right _ (List.mem_append_right _ (List.mem_append_right _ (List.mem_append_left _ h))))))))
  have hown : s.vm.findClass RX7 = some m.cls := findClass_of_methodNamed B.named
  have hlocks := B.notSynchronized
  subst hsz
  have hD := hD0.self (sz := s.heap.size)
  generalize hAe : va_A (wsC K ad S0) s.heap.size = A at hD ⊢
  have hA : ∀ q : Nat, s.heap.size ≤ q → A q := fun q h => by rw [← hAe]; exact Or.inr h
  have hS : va_S A s.heap s.heap [] := va_S.rf
  have hl : lv_has (lg_sl ([.ref (ad x0), va_re ad a1, va_re ad a2]) ++ List.replicate (8 - (lg_sl ([.ref (ad x0), va_re ad a1, va_re ad a2])).length) Slot.unset).toArray 8 [(0, .ref (ad x0)), (1, va_re ad a1), (2, va_re ad a2)] := by
    cases a1 <;> cases a2 <;> exact lv_entry _ (n := 8) (Nat.le_of_ble_eq_true rfl)
  rw [lg_entry_eq]
  generalize (lg_sl ([.ref (ad x0), va_re ad a1, va_re ad a2]) ++ List.replicate (8 - (lg_sl ([.ref (ad x0), va_re ad a1, va_re ad a2])).length) Slot.unset).toArray = ls_ at hl ⊢
  refine wGen (fun Q hQ => ?_)
  obtain ⟨X, hX⟩ : ∃ X, f_Y7_amend S0 x0 a1 a2 = X := ⟨_, rfl⟩
  have L_37 : ∀ (n : Nat) (S : Cst) (x1 : Option Nat) (x2 : Option Nat) (x3 : Int32) (x4 : Int32) (x5 : Int32) (x6 : Int32) (H : Heap) (locs : List Loc) (ls_ : Array Slot), lp_Y7_amend_37 x0 n S x1 x2 x3 x4 x5 x6 = X → lq_Y7_amend_37 x0 n S x1 x2 x3 x4 x5 x6 → eK S0 S → va_P G vwCl (wsC K ad S) H → va_D A (wsC K ad S) → va_S A s.heap H locs → lv_has ls_ 8 [(0, .ref (ad x0)), (1, va_re ad x1), (2, va_re ad x2), (3, .int x3), (4, .int x4), (5, .int x5), (6, .int x6)] → W p l e ({ frames := 2, cells := 0, slots := 0, locals := 84 } : Room) s m #[Value.ref (ad x0), va_re ad a1, va_re ad a2] below meth c H locs 0 0 Q (F0 m 37 ls_ []) := by
    intro n1
    induction n1 with
    | zero => intro S x1 x2 x3 x4 x5 x6 H locs ls_ hE hp; exact False.elim hp
    | succ n1 ih1 =>
      intro S x1 x2 x3 x4 x5 x6 H locs ls_ hO1 hp hZ hP hD hS hl
      rw [lp_Y7_amend_37] at hO1
      rw [lq_Y7_amend_37] at hp
      obtain ⟨hp, hq1⟩ := hp
      generalize hE : st_Y7_amend_37 S x0 x1 x2 x3 x4 x5 x6 = Y1 at hO1 hq1
      unfold st_Y7_amend_37 at hE
      unfold ps_Y7_amend_37 at hp
      have B_Y7_amend_114 : ∀ (S : Cst) (x1 : Option Nat) (x2 : Option Nat) (x3 : Int32) (x4 : Int32) (x5 : Int32) (x6 : Int32) (x7 : Option Nat) (H : Heap) (locs : List Loc) (ls_ : Array Slot), b_Y7_amend_114 S x0 x1 x2 x3 x4 x5 x6 x7 = Y1 → q_Y7_amend_114 S x0 x1 x2 x3 x4 x5 x6 x7 → eK S0 S → va_P G vwCl (wsC K ad S) H → va_D A (wsC K ad S) → va_S A s.heap H locs → lv_has ls_ 8 [(0, .ref (ad x0)), (1, va_re ad x1), (2, va_re ad x2), (3, .int x3), (4, .int x4), (5, .int x5), (6, .int x6), (7, va_re ad x7)] → W p l e ({ frames := 2, cells := 0, slots := 0, locals := 84 } : Room) s m #[Value.ref (ad x0), va_re ad a1, va_re ad a2] below meth c H locs 0 0 Q (F0 m 114 ls_ []) := by
        intro S x1 x2 x3 x4 x5 x6 x7 H locs ls_ hE hp hZ hP hD hS hl
        unfold b_Y7_amend_114 at hE
        unfold q_Y7_amend_114 at hp
        refine lv_iinc (i := 6) (v := (x6 + 1)) (lv' := [(6, .int (x6 + 1)), (0, .ref (ad x0)), (1, va_re ad x1), (2, va_re ad x2), (3, .int x3), (4, .int x4), (5, .int x5), (7, va_re ad x7)]) hx hb dX7_amend_114 hl (k := 6) rfl rfl (by decide) rfl (fun ls_ hl => ?_)
        refine lv_goto (tgt := 37) hx hb dX7_amend_117 (by decide) ?_
        subst hE
        dsimp only at hO1 hq1
        exact ih1 S x1 x2 x3 x4 x5 (x6 + 1) _ _ _ hO1 hq1 hZ hP hD hS (lv_sub hl [1, 2, 3, 4, 5, 6, 0] rfl)
      have B_Y7_amend_69a : ∀ (S : Cst) (x1 : Option Nat) (x2 : Option Nat) (x3 : Int32) (x4 : Int32) (x5 : Int32) (x6 : Int32) (o0 : Option Nat) (H : Heap) (locs : List Loc) (ls_ : Array Slot), b_Y7_amend_69a S x0 x1 x2 x3 x4 x5 x6 o0 = Y1 → q_Y7_amend_69a S x0 x1 x2 x3 x4 x5 x6 o0 → eK S0 S → va_P G vwCl (wsC K ad S) H → va_D A (wsC K ad S) → va_S A s.heap H locs → lv_has ls_ 8 [(0, .ref (ad x0)), (1, va_re ad x1), (2, va_re ad x2), (3, .int x3), (4, .int x4), (5, .int x5), (6, .int x6)] → W p l e ({ frames := 2, cells := 0, slots := 0, locals := 84 } : Room) s m #[Value.ref (ad x0), va_re ad a1, va_re ad a2] below meth c H locs 0 0 Q (F0 m 69 ls_ [va_re ad o0]) := by
        intro S x1 x2 x3 x4 x5 x6 o0 H locs ls_ hE hp hZ hP hD hS hl
        unfold b_Y7_amend_69a at hE
        unfold q_Y7_amend_69a at hp
        refine cAstore (ad := ad) (r := o0) (i := 7) (lv' := [(7, va_re ad o0), (0, .ref (ad x0)), (1, va_re ad x1), (2, va_re ad x2), (3, .int x3), (4, .int x4), (5, .int x5), (6, .int x6)]) hx hb dX7_amend_69 hl (by decide) rfl (fun ls_ hl => ?_)
        refine cAload (ad := ad) (r := o0) hx hb dX7_amend_71 (lv_at hl 0 rfl) ?_
        refine cIfnull (ad := ad) (r := o0) (tgt := 114) hx hb dX7_amend_73 (by decide) (fun c20 => ?_) (fun c20 => ?_)
        · rw [if_pos c20] at hE hp
          exact B_Y7_amend_114 S x1 x2 x3 x4 x5 x6 o0 _ _ _ hE hp hZ hP hD hS (lv_sub hl [1, 2, 3, 4, 5, 6, 7, 0] rfl)
        · rw [if_neg c20] at hE hp
          refine cAload (ad := ad) (r := o0) hx hb dX7_amend_76 (lv_at hl 0 rfl) ?_
          obtain ⟨hy21, hp⟩ := hp
          refine cTop (r := o0) hy21.1 ?_
          refine va_get (D := G) (ci := 3) (v := .int (giC S (o0.getD 0) 10)) (C := RX4) (T := TX4) (N := 16) hx hb hts iX4 hown hK hP (o0.getD 0) (at_3 hy21.2) rfl 10 (by decide) (hw (.fieldLink RX7 154 "MotionFloor$Motion" "laid" "Z") (List.mem_of_getElem? (i := 13) rfl)) (fun _ h9 => h9) rfl dX7_amend_78 ?_
          refine lv_if_eq (tgt := 114) hx hb dX7_amend_81 (by decide) (fun c22 => ?_) (fun c22 => ?_)
          · rw [if_pos c22] at hE hp
            exact B_Y7_amend_114 S x1 x2 x3 x4 x5 x6 o0 _ _ _ hE hp hZ hP hD hS (lv_sub hl [1, 2, 3, 4, 5, 6, 7, 0] rfl)
          · rw [if_neg c22] at hE hp
            refine cAload (ad := ad) (r := o0) hx hb dX7_amend_84 (lv_at hl 0 rfl) ?_
            obtain ⟨hy23, hp⟩ := hp
            refine cTop (r := o0) hy23.1 ?_
            obtain ⟨hy24, hp⟩ := hp
            refine cGoi (va_runV (As := []) (rest := []) ⟨hx, hb, hml, hown, hts⟩ (c_Y4_amends l G K ad S (o0.getD 0) _) (cwV 0 hts (wGV t_ (mw (.methodLink RX7 122 yX4_amends) (List.mem_of_getElem? (i := 14) rfl)) (mw (.instanceMethod yX4_amends) (List.mem_of_getElem? (i := 15) rfl)) (mw (.selects RX4 yX4_amends yX4_amends) (List.mem_of_getElem? (i := 16) rfl)) (mw (.initialized RX4) (List.mem_of_getElem? (i := 17) rfl)) j_Y4_amends) rfl rfl rfl (by decide +kernel) ⟨Nat.le_of_ble_eq_true rfl, Nat.le_of_ble_eq_true rfl⟩) (cPV hK hTE hP hD 3 rfl (at_3 hy23.2) ⟨hy23.2, hy24⟩) rfl rfl hl.1 rfl (lv_room (Nat.le_of_ble_eq_true rfl)) dX7_amend_86 ⟨Nat.le_of_ble_eq_true rfl, Nat.le_of_ble_eq_true rfl⟩) hP hD hS hA (fun r26 u25 H locs hv hP hD hS => ?_)
            have h1 := congrArg Prod.fst hv
            have h2 := (congrArg Prod.snd hv).symm
            dsimp only at h1 h2
            subst h1
            subst h2
            refine lv_if_eq (tgt := 114) hx hb dX7_amend_89 (by decide) (fun c27 => ?_) (fun c27 => ?_)
            · rw [if_pos c27] at hE hp
              exact B_Y7_amend_114 S x1 x2 x3 x4 x5 x6 o0 _ _ _ hE hp hZ hP hD hS (lv_sub hl [1, 2, 3, 4, 5, 6, 7, 0] rfl)
            · rw [if_neg c27] at hE hp
              refine cAload (ad := ad) (r := o0) hx hb dX7_amend_92 (lv_at hl 0 rfl) ?_
              obtain ⟨hy28, hp⟩ := hp
              refine cTop (r := o0) hy28.1 ?_
              refine va_get (D := G) (ci := 3) (v := .int (giC S (o0.getD 0) 1)) (C := RX4) (T := TX4) (N := 16) hx hb hts iX4 hown hK hP (o0.getD 0) (at_3 hy28.2) rfl 1 (by decide) (hw (.fieldLink RX7 157 "MotionFloor$Motion" "subject" "I") (List.mem_of_getElem? (i := 18) rfl)) (fun _ h9 => h9) rfl dX7_amend_94 ?_
              refine cAload_n (ad := ad) (r := x1) hx hb dX7_amend_97 rfl (lv_at hl 2 rfl) ?_
              obtain ⟨hy29, hp⟩ := hp
              refine cTop (r := x1) hy29.1 ?_
              refine va_get (D := G) (ci := 3) (v := .int (giC S (x1.getD 0) 0)) (C := RX4) (T := TX4) (N := 16) hx hb hts iX4 hown hK hP (x1.getD 0) (at_3 hy29.2) rfl 0 (by decide) (hw (.fieldLink RX7 160 "MotionFloor$Motion" "name" "I") (List.mem_of_getElem? (i := 19) rfl)) (fun _ h9 => h9) rfl dX7_amend_98 ?_
              refine lv_icmp_ne (tgt := 114) hx hb dX7_amend_101 (by decide) (fun c30 => ?_) (fun c30 => ?_)
              · rw [if_neg c30] at hE hp
                exact B_Y7_amend_114 S x1 x2 x3 x4 x5 x6 o0 _ _ _ hE hp hZ hP hD hS (lv_sub hl [1, 2, 3, 4, 5, 6, 7, 0] rfl)
              · rw [if_pos c30] at hE hp
                refine cAload (ad := ad) (r := o0) hx hb dX7_amend_104 (lv_at hl 0 rfl) ?_
                refine lv_iload_n hx hb dX7_amend_106 rfl (lv_at hl 4 rfl) ?_
                refine lv_iload hx hb dX7_amend_107 (lv_at hl 5 rfl) ?_
                refine lv_iload hx hb dX7_amend_109 (lv_at hl 6 rfl) ?_
                obtain ⟨hy31, hp⟩ := hp
                refine cTop4 (r := o0) hy31.1 ?_
                obtain ⟨hy32, hp⟩ := hp
                refine cGov (va_runV (As := [.int x3, .int x4, .int x5]) (rest := []) ⟨hx, hb, hml, hown, hts⟩ (c_Y4_follow l G K ad S (o0.getD 0) x3 x4 x5 _) (cwV 3 hts (wGV t_ (mw (.methodLink RX7 163 yX4_follow) (List.mem_of_getElem? (i := 20) rfl)) (mw (.instanceMethod yX4_follow) (List.mem_of_getElem? (i := 21) rfl)) (mw (.selects RX4 yX4_follow yX4_follow) (List.mem_of_getElem? (i := 22) rfl)) (mw (.initialized RX4) (List.mem_of_getElem? (i := 17) rfl)) j_Y4_follow) rfl rfl rfl (by decide +kernel) ⟨Nat.le_of_ble_eq_true rfl, Nat.le_of_ble_eq_true rfl⟩) (cPV hK hTE hP hD 3 rfl (at_3 hy31.2) ⟨hy31.2, hy32⟩) rfl rfl hl.1 rfl (lv_room (Nat.le_of_ble_eq_true rfl)) dX7_amend_111 ⟨Nat.le_of_ble_eq_true rfl, Nat.le_of_ble_eq_true rfl⟩) hP hD hS hA (fun u33 H locs hv hP hD hS => ?_)
                obtain ⟨hv, hz⟩ := hv
                have hZ := hZ.tr hz
                rw [← hv] at hE hp
                dsimp only at hE hp
                exact B_Y7_amend_114 u33 x1 x2 x3 x4 x5 x6 o0 _ _ _ hE hp hZ hP hD hS (lv_sub hl [1, 2, 3, 4, 5, 6, 7, 0] rfl)
      refine lv_iload hx hb dX7_amend_37 (lv_at hl 6 rfl) ?_
      refine lv_bipush (v := 8) hx hb dX7_amend_39 (by decide) ?_
      refine lv_icmp_ge (tgt := 120) hx hb dX7_amend_41 (by decide) (fun c12 => ?_) (fun c12 => ?_)
      · rw [if_pos c12] at hE hp
        subst hE
        have hE := hO1
        dsimp only at hE
        subst hQ
        exact W.vret hx hb hr (fun t ht hW => ⟨⟨S, rfl, ⟨hE.trans hX.symm, hZ⟩, by rw [ht]; exact hP, hD⟩, hS.F ht⟩) hS.2.2 dX7_amend_120
      · rw [if_neg c12] at hE hp
        refine lv_iload hx hb dX7_amend_44 (lv_at hl 6 rfl) ?_
        refine lv_if_ge (tgt := 59) hx hb dX7_amend_46 (by decide) (fun c13 => ?_) (fun c13 => ?_)
        · rw [if_pos c13] at hE hp
          refine lv_aload_n hx hb dX7_amend_59 rfl (lv_at hl 0 rfl) ?_
          refine va_get (D := G) (ci := 0) (v := va_re ad (grC S x0 3)) (C := RX0) (T := TX0) (N := 11) hx hb hts iX0 hown hK hP x0 (at_0 (k_x0.e hZ)) rfl 3 (by decide) (hw (.fieldLink RX7 150 "MotionFloor$Assembly" "desk" "[LMotionFloor$Place;") (List.mem_of_getElem? (i := 8) rfl)) (fun _ h9 => h9) rfl dX7_amend_60 ?_
          refine lv_iload hx hb dX7_amend_63 (lv_at hl 6 rfl) ?_
          obtain ⟨hy14, hp⟩ := hp
          refine cTop2 (r := (grC S x0 3)) hy14.1 ?_
          obtain ⟨hy15, hp⟩ := hp
          refine cAald hx hb hK hP ((grC S x0 3).getD 0) 4 (at_24 hy14.2) rfl hy15 dX7_amend_65 ?_
          obtain ⟨hy16, hp⟩ := hp
          refine cTop (r := (grC S ((grC S x0 3).getD 0) x6.toNatClampNeg)) hy16.1 ?_
          obtain ⟨hy17, hp⟩ := hp
          refine cGoq (va_runV (As := []) (rest := []) ⟨hx, hb, hml, hown, hts⟩ (c_Y6_motion l G K ad S ((grC S ((grC S x0 3).getD 0) x6.toNatClampNeg).getD 0) _) (cwV 0 hts (wGV t_ (mw (.methodLink RX7 144 yX6_motion) (List.mem_of_getElem? (i := 9) rfl)) (mw (.instanceMethod yX6_motion) (List.mem_of_getElem? (i := 10) rfl)) (mw (.selects RX6 yX6_motion yX6_motion) (List.mem_of_getElem? (i := 11) rfl)) (mw (.initialized RX6) (List.mem_of_getElem? (i := 12) rfl)) j_Y6_motion) rfl rfl rfl (by decide +kernel) ⟨Nat.le_of_ble_eq_true rfl, Nat.le_of_ble_eq_true rfl⟩) (cPV hK hTE hP hD 5 rfl (at_5 hy16.2) ⟨hy16.2, hy17⟩) rfl rfl hl.1 rfl (lv_room (Nat.le_of_ble_eq_true rfl)) dX7_amend_66 ⟨Nat.le_of_ble_eq_true rfl, Nat.le_of_ble_eq_true rfl⟩) hP hD hS hA (fun r19 u18 H locs hv hP hD hS => ?_)
          have h1 := congrArg Prod.fst hv
          have h2 := (congrArg Prod.snd hv).symm
          dsimp only at h1 h2
          subst h1
          subst h2
          exact B_Y7_amend_69a S x1 x2 x3 x4 x5 x6 (f_Y6_motion S ((grC S ((grC S x0 3).getD 0) x6.toNatClampNeg).getD 0)) _ _ _ hE hp hZ hP hD hS (lv_sub hl [0, 1, 2, 3, 4, 5, 6] rfl)
        · rw [if_neg c13] at hE hp
          refine lv_aload_n hx hb dX7_amend_49 rfl (lv_at hl 0 rfl) ?_
          refine va_get (D := G) (ci := 0) (v := va_re ad (grC S x0 2)) (C := RX0) (T := TX0) (N := 11) hx hb hts iX0 hown hK hP x0 (at_0 (k_x0.e hZ)) rfl 2 (by decide) (hw (.fieldLink RX7 140 "MotionFloor$Assembly" "draft" "LMotionFloor$Place;") (List.mem_of_getElem? (i := 23) rfl)) (fun _ h9 => h9) rfl dX7_amend_50 ?_
          obtain ⟨hy35, hp⟩ := hp
          refine cTop (r := (grC S x0 2)) hy35.1 ?_
          obtain ⟨hy36, hp⟩ := hp
          refine cGoq (va_runV (As := []) (rest := []) ⟨hx, hb, hml, hown, hts⟩ (c_Y6_motion l G K ad S ((grC S x0 2).getD 0) _) (cwV 0 hts (wGV t_ (mw (.methodLink RX7 144 yX6_motion) (List.mem_of_getElem? (i := 9) rfl)) (mw (.instanceMethod yX6_motion) (List.mem_of_getElem? (i := 10) rfl)) (mw (.selects RX6 yX6_motion yX6_motion) (List.mem_of_getElem? (i := 11) rfl)) (mw (.initialized RX6) (List.mem_of_getElem? (i := 12) rfl)) j_Y6_motion) rfl rfl rfl (by decide +kernel) ⟨Nat.le_of_ble_eq_true rfl, Nat.le_of_ble_eq_true rfl⟩) (cPV hK hTE hP hD 5 rfl (at_5 hy35.2) ⟨hy35.2, hy36⟩) rfl rfl hl.1 rfl (lv_room (Nat.le_of_ble_eq_true rfl)) dX7_amend_53 ⟨Nat.le_of_ble_eq_true rfl, Nat.le_of_ble_eq_true rfl⟩) hP hD hS hA (fun r38 u37 H locs hv hP hD hS => ?_)
          have h1 := congrArg Prod.fst hv
          have h2 := (congrArg Prod.snd hv).symm
          dsimp only at h1 h2
          subst h1
          subst h2
          refine lv_goto (tgt := 69) hx hb dX7_amend_56 (by decide) ?_
          exact B_Y7_amend_69a S x1 x2 x3 x4 x5 x6 (f_Y6_motion S ((grC S x0 2).getD 0)) _ _ _ hE hp hZ hP hD hS (lv_sub hl [0, 1, 2, 3, 4, 5, 6] rfl)
  have B_Y7_amend_34a : ∀ (S : Cst) (x1 : Option Nat) (x2 : Option Nat) (x3 : Int32) (x4 : Int32) (x5 : Int32) (H : Heap) (locs : List Loc) (ls_ : Array Slot), b_Y7_amend_34a S x0 x1 x2 x3 x4 x5 = X → q_Y7_amend_34a S x0 x1 x2 x3 x4 x5 → eK S0 S → va_P G vwCl (wsC K ad S) H → va_D A (wsC K ad S) → va_S A s.heap H locs → lv_has ls_ 8 [(0, .ref (ad x0)), (1, va_re ad x1), (2, va_re ad x2), (3, .int x3), (4, .int x4), (5, .int x5)] → W p l e ({ frames := 2, cells := 0, slots := 0, locals := 84 } : Room) s m #[Value.ref (ad x0), va_re ad a1, va_re ad a2] below meth c H locs 0 0 Q (F0 m 34 ls_ []) := by
    intro S x1 x2 x3 x4 x5 H locs ls_ hE hp hZ hP hD hS hl
    unfold b_Y7_amend_34a at hE
    unfold q_Y7_amend_34a at hp
    refine lv_iconst (v := (-1)) hx hb dX7_amend_34 (by decide) ?_
    refine lv_istore (i := 6) (lv' := [(6, .int (-1)), (0, .ref (ad x0)), (1, va_re ad x1), (2, va_re ad x2), (3, .int x3), (4, .int x4), (5, .int x5)]) hx hb dX7_amend_35 hl (by decide) rfl (fun ls_ hl => ?_)
    exact L_37 100000 S x1 x2 x3 x4 x5 (-1) _ _ _ hE hp hZ hP hD hS (lv_sub hl [1, 2, 3, 4, 5, 6, 0] rfl)
  have B_M : ∀ (S : Cst) (x1 : Option Nat) (x2 : Option Nat) (H : Heap) (locs : List Loc) (ls_ : Array Slot), f_Y7_amend S x0 x1 x2 = X → p_Y7_amend S x0 x1 x2 → eK S0 S → va_P G vwCl (wsC K ad S) H → va_D A (wsC K ad S) → va_S A s.heap H locs → lv_has ls_ 8 [(0, .ref (ad x0)), (1, va_re ad x1), (2, va_re ad x2)] → W p l e ({ frames := 2, cells := 0, slots := 0, locals := 84 } : Room) s m #[Value.ref (ad x0), va_re ad a1, va_re ad a2] below meth c H locs 0 0 Q (F0 m 0 ls_ []) := by
    intro S x1 x2 H locs ls_ hE hp hZ hP hD hS hl
    unfold f_Y7_amend at hE
    unfold p_Y7_amend at hp
    refine cAload_n (ad := ad) (r := x2) hx hb dX7_amend_0 rfl (lv_at hl 2 rfl) ?_
    obtain ⟨hy1, hp⟩ := hp
    refine cTop (r := x2) hy1.1 ?_
    refine va_get (D := G) (ci := 3) (v := .int (giC S (x2.getD 0) 8)) (C := RX4) (T := TX4) (N := 16) hx hb hts iX4 hown hK hP (x2.getD 0) (at_3 hy1.2) rfl 8 (by decide) (hw (.fieldLink RX7 129 "MotionFloor$Motion" "from" "I") (List.mem_of_getElem? (i := 0) rfl)) (fun _ h9 => h9) rfl dX7_amend_1 ?_
    refine lv_istore_n (i := 3) (lv' := [(3, .int (giC S (x2.getD 0) 8)), (0, .ref (ad x0)), (1, va_re ad x1), (2, va_re ad x2)]) hx hb dX7_amend_4 rfl hl (by decide) (by simp [List.filter, re_cat]) (fun ls_ hl => ?_)
    refine cAload_n (ad := ad) (r := x2) hx hb dX7_amend_5 rfl (lv_at hl 3 rfl) ?_
    obtain ⟨hy2, hp⟩ := hp
    refine cTop (r := x2) hy2.1 ?_
    refine va_get (D := G) (ci := 3) (v := .int (giC S (x2.getD 0) 9)) (C := RX4) (T := TX4) (N := 16) hx hb hts iX4 hown hK hP (x2.getD 0) (at_3 hy2.2) rfl 9 (by decide) (hw (.fieldLink RX7 132 "MotionFloor$Motion" "to" "I") (List.mem_of_getElem? (i := 1) rfl)) (fun _ h9 => h9) rfl dX7_amend_6 ?_
    refine lv_istore (i := 4) (lv' := [(4, .int (giC S (x2.getD 0) 9)), (3, .int (giC S (x2.getD 0) 8)), (0, .ref (ad x0)), (1, va_re ad x1), (2, va_re ad x2)]) hx hb dX7_amend_9 hl (by decide) rfl (fun ls_ hl => ?_)
    refine cAload_n (ad := ad) (r := x2) hx hb dX7_amend_11 rfl (lv_at hl 4 rfl) ?_
    obtain ⟨hy3, hp⟩ := hp
    refine cTop (r := x2) hy3.1 ?_
    refine va_get (D := G) (ci := 3) (v := va_re ad (grC S (x2.getD 0) 12)) (C := RX4) (T := TX4) (N := 16) hx hb hts iX4 hown hK hP (x2.getD 0) (at_3 hy3.2) rfl 12 (by decide) (hw (.fieldLink RX7 103 "MotionFloor$Motion" "text" "LMotionFloor$Text;") (List.mem_of_getElem? (i := 2) rfl)) (fun _ h9 => h9) rfl dX7_amend_12 ?_
    obtain ⟨hy4, hp⟩ := hp
    refine cTop (r := (grC S (x2.getD 0) 12)) hy4.1 ?_
    refine va_get (D := G) (ci := 6) (v := .int (giC S ((grC S (x2.getD 0) 12).getD 0) 1)) (C := RX9) (T := TX9) (N := 2) hx hb hts iX9 hown hK hP ((grC S (x2.getD 0) 12).getD 0) (at_6 hy4.2) rfl 1 (by decide) (hw (.fieldLink RX7 135 "MotionFloor$Text" "size" "I") (List.mem_of_getElem? (i := 3) rfl)) (fun _ h9 => h9) rfl dX7_amend_15 ?_
    refine lv_istore (i := 5) (lv' := [(5, .int (giC S ((grC S (x2.getD 0) 12).getD 0) 1)), (4, .int (giC S (x2.getD 0) 9)), (3, .int (giC S (x2.getD 0) 8)), (0, .ref (ad x0)), (1, va_re ad x1), (2, va_re ad x2)]) hx hb dX7_amend_18 hl (by decide) rfl (fun ls_ hl => ?_)
    refine cAload_n (ad := ad) (r := x1) hx hb dX7_amend_20 rfl (lv_at hl 4 rfl) ?_
    obtain ⟨hy5, hp⟩ := hp
    refine cTop (r := x1) hy5.1 ?_
    refine va_get (D := G) (ci := 3) (v := va_re ad (grC S (x1.getD 0) 12)) (C := RX4) (T := TX4) (N := 16) hx hb hts iX4 hown hK hP (x1.getD 0) (at_3 hy5.2) rfl 12 (by decide) (hw (.fieldLink RX7 103 "MotionFloor$Motion" "text" "LMotionFloor$Text;") (List.mem_of_getElem? (i := 2) rfl)) (fun _ h9 => h9) rfl dX7_amend_21 ?_
    refine lv_iload_n hx hb dX7_amend_24 rfl (lv_at hl 2 rfl) ?_
    refine lv_iload hx hb dX7_amend_25 (lv_at hl 1 rfl) ?_
    refine cAload_n (ad := ad) (r := x2) hx hb dX7_amend_27 rfl (lv_at hl 5 rfl) ?_
    obtain ⟨hy6, hp⟩ := hp
    refine cTop (r := x2) hy6.1 ?_
    refine va_get (D := G) (ci := 3) (v := va_re ad (grC S (x2.getD 0) 12)) (C := RX4) (T := TX4) (N := 16) hx hb hts iX4 hown hK hP (x2.getD 0) (at_3 hy6.2) rfl 12 (by decide) (hw (.fieldLink RX7 103 "MotionFloor$Motion" "text" "LMotionFloor$Text;") (List.mem_of_getElem? (i := 2) rfl)) (fun _ h9 => h9) rfl dX7_amend_28 ?_
    obtain ⟨hy7, hp⟩ := hp
    refine cTop4 (r := (grC S (x1.getD 0) 12)) hy7.1 ?_
    obtain ⟨hy8, hp⟩ := hp
    refine cTop (r := (grC S (x2.getD 0) 12)) hy8.1 ?_
    obtain ⟨hy9, hp⟩ := hp
    refine cGov (va_runV (As := [.int (giC S (x2.getD 0) 8), .int (giC S (x2.getD 0) 9), .ref (ad ((grC S (x2.getD 0) 12).getD 0))]) (rest := []) ⟨hx, hb, hml, hown, hts⟩ (c_Y9_replace l G K ad S ((grC S (x1.getD 0) 12).getD 0) ((grC S (x2.getD 0) 12).getD 0) (giC S (x2.getD 0) 8) (giC S (x2.getD 0) 9) _) (cwV 3 hts (wGV t_ (mw (.methodLink RX7 136 yX9_replace) (List.mem_of_getElem? (i := 4) rfl)) (mw (.instanceMethod yX9_replace) (List.mem_of_getElem? (i := 5) rfl)) (mw (.selects RX9 yX9_replace yX9_replace) (List.mem_of_getElem? (i := 6) rfl)) (mw (.initialized RX9) (List.mem_of_getElem? (i := 7) rfl)) j_Y9_replace) rfl rfl rfl (by decide +kernel) ⟨Nat.le_of_ble_eq_true rfl, Nat.le_of_ble_eq_true rfl⟩) (cPV hK hTE hP hD 6 rfl (at_6 hy7.2) ⟨hy7.2, hy8.2, hy9⟩) rfl rfl hl.1 rfl (lv_room (Nat.le_of_ble_eq_true rfl)) dX7_amend_31 ⟨Nat.le_of_ble_eq_true rfl, Nat.le_of_ble_eq_true rfl⟩) hP hD hS hA (fun u10 H locs hv hP hD hS => ?_)
    obtain ⟨hv, hz⟩ := hv
    have hZ := hZ.tr hz
    rw [← hv] at hE hp
    dsimp only at hE hp
    exact B_Y7_amend_34a u10 x1 x2 (giC S (x2.getD 0) 8) (giC S (x2.getD 0) 9) (giC S ((grC S (x2.getD 0) 12).getD 0) 1) _ _ _ hE hp hZ hP hD hS (lv_sub hl [3, 4, 5, 2, 1, 0] rfl)
  exact B_M S0 a1 a2 _ _ _ hX hp (eK.rf S0) hP hD hS hl
theorem gdX7_carryAlone_25 : ckS (List.drop 25 cX7_carryAlone.data.toList) 25 [(25, .aload_n 0, 1), (26, .getfield 99, 3), (29, .aload_n 1, 1), (30, .getfield 103, 3), (33, .invokevirtual 106, 3), (36, .aload_n 0, 1), (37, .dup, 1), (38, .getfield 112, 3), (41, .iconst 1, 1), (42, .iadd, 1), (43, .putfield 112, 3), (46, .goto 60, 3), (58, .aload_n 0, 1), (59, .getfield 9, 3), (62, .invokevirtual 115, 3), (65, .goto 41, 3), (72, .aload_n 1, 1), (73, .getfield 37, 3), (76, .bipush 6, 2), (78, .if_icmp .ne 11, 3), (81, .aload_n 2, 1), (82, .iconst 1, 1), (83, .putfield 118, 3), (86, .goto 20, 3)] = true := by decide +kernel
theorem dX7_carryAlone_25 : decode cX7_carryAlone 25 = .ok (.aload_n 0, 1) := ckS_g gdX7_carryAlone_25 0 rfl
theorem dX7_carryAlone_26 : decode cX7_carryAlone 26 = .ok (.getfield 99, 3) := ckS_g gdX7_carryAlone_25 1 rfl
theorem dX7_carryAlone_29 : decode cX7_carryAlone 29 = .ok (.aload_n 1, 1) := ckS_g gdX7_carryAlone_25 2 rfl
theorem dX7_carryAlone_30 : decode cX7_carryAlone 30 = .ok (.getfield 103, 3) := ckS_g gdX7_carryAlone_25 3 rfl
theorem dX7_carryAlone_33 : decode cX7_carryAlone 33 = .ok (.invokevirtual 106, 3) := ckS_g gdX7_carryAlone_25 4 rfl
theorem dX7_carryAlone_36 : decode cX7_carryAlone 36 = .ok (.aload_n 0, 1) := ckS_g gdX7_carryAlone_25 5 rfl
theorem dX7_carryAlone_37 : decode cX7_carryAlone 37 = .ok (.dup, 1) := ckS_g gdX7_carryAlone_25 6 rfl
theorem dX7_carryAlone_38 : decode cX7_carryAlone 38 = .ok (.getfield 112, 3) := ckS_g gdX7_carryAlone_25 7 rfl
theorem dX7_carryAlone_41 : decode cX7_carryAlone 41 = .ok (.iconst 1, 1) := ckS_g gdX7_carryAlone_25 8 rfl
theorem dX7_carryAlone_42 : decode cX7_carryAlone 42 = .ok (.iadd, 1) := ckS_g gdX7_carryAlone_25 9 rfl
theorem dX7_carryAlone_43 : decode cX7_carryAlone 43 = .ok (.putfield 112, 3) := ckS_g gdX7_carryAlone_25 10 rfl
theorem dX7_carryAlone_46 : decode cX7_carryAlone 46 = .ok (.goto 60, 3) := ckS_g gdX7_carryAlone_25 11 rfl
theorem dX7_carryAlone_58 : decode cX7_carryAlone 58 = .ok (.aload_n 0, 1) := ckS_g gdX7_carryAlone_25 12 rfl
theorem dX7_carryAlone_59 : decode cX7_carryAlone 59 = .ok (.getfield 9, 3) := ckS_g gdX7_carryAlone_25 13 rfl
theorem dX7_carryAlone_62 : decode cX7_carryAlone 62 = .ok (.invokevirtual 115, 3) := ckS_g gdX7_carryAlone_25 14 rfl
theorem dX7_carryAlone_65 : decode cX7_carryAlone 65 = .ok (.goto 41, 3) := ckS_g gdX7_carryAlone_25 15 rfl
theorem dX7_carryAlone_72 : decode cX7_carryAlone 72 = .ok (.aload_n 1, 1) := ckS_g gdX7_carryAlone_25 16 rfl
theorem dX7_carryAlone_73 : decode cX7_carryAlone 73 = .ok (.getfield 37, 3) := ckS_g gdX7_carryAlone_25 17 rfl
theorem dX7_carryAlone_76 : decode cX7_carryAlone 76 = .ok (.bipush 6, 2) := ckS_g gdX7_carryAlone_25 18 rfl
theorem dX7_carryAlone_78 : decode cX7_carryAlone 78 = .ok (.if_icmp .ne 11, 3) := ckS_g gdX7_carryAlone_25 19 rfl
theorem dX7_carryAlone_81 : decode cX7_carryAlone 81 = .ok (.aload_n 2, 1) := ckS_g gdX7_carryAlone_25 20 rfl
theorem dX7_carryAlone_82 : decode cX7_carryAlone 82 = .ok (.iconst 1, 1) := ckS_g gdX7_carryAlone_25 21 rfl
theorem dX7_carryAlone_83 : decode cX7_carryAlone 83 = .ok (.putfield 118, 3) := ckS_g gdX7_carryAlone_25 22 rfl
theorem dX7_carryAlone_86 : decode cX7_carryAlone 86 = .ok (.goto 20, 3) := ckS_g gdX7_carryAlone_25 23 rfl
set_option maxRecDepth 100000 in
theorem zc335 : wZ (.fieldLink RX7 112 "MotionFloor$Assembly" "adoptions" "I") := ⟨wT1 (List.mem_of_getElem? (i := 205) (by decide +kernel)), Or.inl rfl⟩
set_option maxRecDepth 100000 in
theorem zc336 : wZ (.methodLink RX7 106 yX9_become) := ⟨wT4 (List.mem_of_getElem? (i := 0) (by decide +kernel)), Or.inl rfl⟩
set_option maxRecDepth 100000 in
theorem zc337 : wZ (.fieldLink RX7 99 "MotionFloor$Assembly" "adopted" "LMotionFloor$Text;") := ⟨wT1 (List.mem_of_getElem? (i := 202) (by decide +kernel)), Or.inl rfl⟩
set_option maxRecDepth 100000 in
theorem zc338 : wZ (.methodLink RX7 115 yX2_empty) := ⟨wT4 (List.mem_of_getElem? (i := 7) (by decide +kernel)), Or.inl rfl⟩
set_option maxRecDepth 100000 in
theorem zc339 : wZ (.fieldLink RX7 9 "MotionFloor$Assembly" "house" "LMotionFloor$House;") := ⟨wT1 (List.mem_of_getElem? (i := 178) (by decide +kernel)), Or.inl rfl⟩
set_option maxRecDepth 100000 in
theorem zc340 : wZ (.fieldLink RX7 118 "MotionFloor$Motion" "closed" "Z") := ⟨wT3 (List.mem_of_getElem? (i := 34) (by decide +kernel)), Or.inl rfl⟩
set_option maxRecDepth 100000 in
theorem zc341 : wZ (.initialized RX7) := ⟨wT1 (List.mem_of_getElem? (i := 15) (by decide +kernel)), Or.inl rfl⟩
set_option maxRecDepth 100000 in
theorem zc342 : wZ (.static yX7_amend) := ⟨wT4 (List.mem_of_getElem? (i := 10) (by decide +kernel)), Or.inl rfl⟩
set_option maxRecDepth 100000 in
theorem zc343 : wZ (.methodLink RX7 125 yX7_amend) := ⟨wT4 (List.mem_of_getElem? (i := 9) (by decide +kernel)), Or.inl rfl⟩
set_option maxRecDepth 100000 in
theorem zc344 : wZ (.methodLink RX7 95 yX5_at) := ⟨wT3 (List.mem_of_getElem? (i := 239) (by decide +kernel)), Or.inl rfl⟩
set_option maxRecDepth 100000 in
theorem zc345 : wZ (.fieldLink RX7 92 "MotionFloor$Pile" "size" "I") := ⟨wT1 (List.mem_of_getElem? (i := 90) (by decide +kernel)), Or.inl rfl⟩
set_option maxRecDepth 100000 in
theorem zc346 : wZ (.fieldLink RX7 58 "MotionFloor$Assembly" "pending" "LMotionFloor$Pile;") := ⟨wT1 (List.mem_of_getElem? (i := 184) (by decide +kernel)), Or.inl rfl⟩
set_option maxRecDepth 100000 in
theorem zc347 : wZ (.code yX7_carryAlone cX7_carryAlone 3 none) := ⟨wT3 (List.mem_of_getElem? (i := 238) rfl), Or.inl rfl⟩
def b_Y7_carryAlone_106 (S : Cst) (x0 : Nat) (x1 : Option Nat) (x2 : Option Nat) : Int32 × Cst := (0, S)
def q_Y7_carryAlone_106 (S : Cst) (x0 : Nat) (x1 : Option Nat) (x2 : Option Nat) : Prop := True
def b_Y7_carryAlone_89 (S : Cst) (x0 : Nat) (x1 : Option Nat) (x2 : Option Nat) : Int32 × Cst := if x2 = none then (b_Y7_carryAlone_106 S x0 x1 x2) else if (f_Y4_amends S (x1.getD 0)) = 0 then (b_Y7_carryAlone_106 S x0 x1 x2) else (b_Y7_carryAlone_106 ((f_Y7_amend S x0 x2 x1).2) x0 x1 x2)
def q_Y7_carryAlone_89 (S : Cst) (x0 : Nat) (x1 : Option Nat) (x2 : Option Nat) : Prop := (if x2 = none then (q_Y7_carryAlone_106 S x0 x1 x2) else (iR S x1 3) ∧ (p_Y4_amends S (x1.getD 0)) ∧ (if (f_Y4_amends S (x1.getD 0)) = 0 then (q_Y7_carryAlone_106 S x0 x1 x2) else (p_Y7_amend S x0 x2 x1) ∧ (q_Y7_carryAlone_106 ((f_Y7_amend S x0 x2 x1).2) x0 x1 x2)))
def b_Y7_carryAlone_65a (S : Cst) (x0 : Nat) (x1 : Option Nat) (x2 : Option Nat) : Int32 × Cst := (b_Y7_carryAlone_106 S x0 x1 x2)
def q_Y7_carryAlone_65a (S : Cst) (x0 : Nat) (x1 : Option Nat) (x2 : Option Nat) : Prop := (q_Y7_carryAlone_106 S x0 x1 x2)
def b_Y7_carryAlone_36a (S : Cst) (x0 : Nat) (x1 : Option Nat) (x2 : Option Nat) : Int32 × Cst := (b_Y7_carryAlone_106 (siC S x0 7 ((giC S x0 7) + 1)) x0 x1 x2)
def q_Y7_carryAlone_36a (S : Cst) (x0 : Nat) (x1 : Option Nat) (x2 : Option Nat) : Prop := (q_Y7_carryAlone_106 (siC S x0 7 ((giC S x0 7) + 1)) x0 x1 x2)
def b_Y7_carryAlone_16a (S : Cst) (x0 : Nat) (x1 : Option Nat) (o0 : Option Nat) : Int32 × Cst := if (giC S (x1.getD 0) 2) = 1 then (b_Y7_carryAlone_36a ((f_Y9_become S ((grC S x0 6).getD 0) ((grC S (x1.getD 0) 12).getD 0)).2) x0 x1 o0) else if (giC S (x1.getD 0) 2) = 8 then (b_Y7_carryAlone_65a ((f_Y2_empty S ((grC S x0 0).getD 0)).2) x0 x1 o0) else if o0 = none then (b_Y7_carryAlone_89 S x0 x1 o0) else if (giC S (x1.getD 0) 2) = 6 then (b_Y7_carryAlone_106 (siC S (o0.getD 0) 7 (1 : Int32)) x0 x1 o0) else (b_Y7_carryAlone_89 S x0 x1 o0)
def q_Y7_carryAlone_16a (S : Cst) (x0 : Nat) (x1 : Option Nat) (o0 : Option Nat) : Prop := (iR S x1 3) ∧ (if (giC S (x1.getD 0) 2) = 1 then (iR S x1 3) ∧ (iR S (grC S x0 6) 6) ∧ (iR S (grC S (x1.getD 0) 12) 6) ∧ (p_Y9_become S ((grC S x0 6).getD 0) ((grC S (x1.getD 0) 12).getD 0)) ∧ (q_Y7_carryAlone_36a ((f_Y9_become S ((grC S x0 6).getD 0) ((grC S (x1.getD 0) 12).getD 0)).2) x0 x1 o0) else (iR S x1 3) ∧ (if (giC S (x1.getD 0) 2) = 8 then (iR S (grC S x0 0) 1) ∧ (p_Y2_empty S ((grC S x0 0).getD 0)) ∧ (q_Y7_carryAlone_65a ((f_Y2_empty S ((grC S x0 0).getD 0)).2) x0 x1 o0) else (if o0 = none then (q_Y7_carryAlone_89 S x0 x1 o0) else (iR S x1 3) ∧ (if (giC S (x1.getD 0) 2) = 6 then (iR S o0 3) ∧ (q_Y7_carryAlone_106 (siC S (o0.getD 0) 7 (1 : Int32)) x0 x1 o0) else (q_Y7_carryAlone_89 S x0 x1 o0)))))
def f_Y7_carryAlone (S : Cst) (x0 : Nat) (x1 : Option Nat) : Int32 × Cst := (b_Y7_carryAlone_16a S x0 x1 (f_Y5_at S ((grC S x0 1).getD 0) ((giC S ((grC S x0 1).getD 0) 1) - 2)))
def p_Y7_carryAlone (S : Cst) (x0 : Nat) (x1 : Option Nat) : Prop := (iR S (grC S x0 1) 4) ∧ (iR S (grC S x0 1) 4) ∧ (p_Y5_at S ((grC S x0 1).getD 0) ((giC S ((grC S x0 1).getD 0) 1) - 2)) ∧ (q_Y7_carryAlone_16a S x0 x1 (f_Y5_at S ((grC S x0 1).getD 0) ((giC S ((grC S x0 1).getD 0) 1) - 2)))
def e_Y7_carryAlone : List Cond := [.fieldLink RX7 58 "MotionFloor$Assembly" "pending" "LMotionFloor$Pile;", .fieldLink RX7 92 "MotionFloor$Pile" "size" "I", .methodLink RX7 95 yX5_at, .instanceMethod yX5_at, .selects RX5 yX5_at yX5_at, .initialized RX5, .fieldLink RX7 37 "MotionFloor$Motion" "kind" "I", .methodLink RX7 122 yX4_amends, .instanceMethod yX4_amends, .selects RX4 yX4_amends yX4_amends, .initialized RX4, .methodLink RX7 125 yX7_amend, .static yX7_amend, .initialized RX7, .fieldLink RX7 118 "MotionFloor$Motion" "closed" "Z", .fieldLink RX7 9 "MotionFloor$Assembly" "house" "LMotionFloor$House;", .methodLink RX7 115 yX2_empty, .instanceMethod yX2_empty, .selects RX2 yX2_empty yX2_empty, .initialized RX2, .fieldLink RX7 99 "MotionFloor$Assembly" "adopted" "LMotionFloor$Text;", .fieldLink RX7 103 "MotionFloor$Motion" "text" "LMotionFloor$Text;", .methodLink RX7 106 yX9_become, .instanceMethod yX9_become, .selects RX9 yX9_become yX9_become, .initialized RX9, .fieldLink RX7 112 "MotionFloor$Assembly" "adoptions" "I"]
def v_Y7_carryAlone : List Cond := .code yX7_carryAlone cX7_carryAlone 3 none :: (e_Y7_carryAlone ++ (wsX00 ++ (wsX50 ++ (wsX40 ++ (v_Y5_at ++ (v_Y4_amends ++ (v_Y7_amend ++ (v_Y2_empty ++ (v_Y9_become ++ [])))))))))
theorem te_Y7_carryAlone : GoodIn lw_tbl e_Y7_carryAlone := wGc zc346 (wGc zc345 (wGc zc344 (wGc zc123 (wGc zc122 (wGc zc34 (wGc zc310 (wGc zc323 (wGc zc172 (wGc zc171 (wGc zc170 (wGc zc343 (wGc zc342 (wGc zc341 (wGc zc340 (wGc zc339 (wGc zc338 (wGc zc79 (wGc zc78 (wGc zc77 (wGc zc337 (wGc zc331 (wGc zc336 (wGc zc278 (wGc zc277 (wGc zc130 (wGc zc335 (wG0)))))))))))))))))))))))))))
theorem t_Y7_carryAlone : GoodIn lw_tbl v_Y7_carryAlone := wGc zc347 (wGa te_Y7_carryAlone (wGa zcX0 (wGa zcX5 (wGa zcX4 (wGa t_Y5_at (wGa t_Y4_amends (wGa t_Y7_amend (wGa t_Y2_empty (wGa t_Y9_become (wG0))))))))))
set_option maxHeartbeats 4000000 in
set_option maxRecDepth 100000 in
theorem c_Y7_carryAlone (l : Launch) (G : va_G) (K : Nat → ClassId) (ad : Nat → Nat) (S0 : Cst) (x0 : Nat) (a1 : Option Nat) (sz : Nat) : Met l yX7_carryAlone v_Y7_carryAlone ({ frames := 3, cells := 0, slots := 0, locals := 111 }) (va_Pc [.ref (ad x0), va_re ad a1] (cSt G K ad sz S0 (iK S0 x0 0 ∧ p_Y7_carryAlone S0 x0 a1))) (va_Qv (fun u : Cst => (0, u) = f_Y7_carryAlone S0 x0 a1 ∧ eK S0 u) (cBt G K ad (va_A (wsC K ad S0) sz)) (va_A (wsC K ad S0) sz)) 0 0 (va_A (wsC K ad S0) sz) := by
  refine Met.ofW (cc := cX7_carryAlone) (maxL := 3) (ret := none) (by decide) rfl ?_
  intro p e s m args below meth c s₁ B hml hv
  obtain ⟨rfl, ⟨hsz, hP, hK, hD0, hTE⟩, hp⟩ := hv
  obtain ⟨k_x0, hp⟩ := hp
  have hx := B.exec
  have hb := B.bytes
  have hr := B.returns
  have hts := atoms_spec (ws := v_Y7_carryAlone) B.pre
  have t_ := t_Y7_carryAlone
  have mw : ∀ w ∈ e_Y7_carryAlone, w ∈ v_Y7_carryAlone := fun w h => List.mem_cons_of_mem _ (List.mem_append_left _ h)
  have hw := fun w (h : w ∈ e_Y7_carryAlone) => hts w (mw w h)
  have iX0 : ∀ w ∈ wsX00, w ∈ v_Y7_carryAlone := fun w h => List.mem_cons_of_mem _ (List.mem_append_right _ (List.mem_append_left _ h))
  have iX5 : ∀ w ∈ wsX50, w ∈ v_Y7_carryAlone := fun w h => List.mem_cons_of_mem _ (List.mem_append_right _ (List.mem_append_right _ (List.mem_append_left _ h)))
  have iX4 : ∀ w ∈ wsX40, w ∈ v_Y7_carryAlone := fun w h => List.mem_cons_of_mem _ (List.mem_append_right _ (List.mem_append_right _ (List.mem_append_right _ (List.mem_append_left _ h))))
  have j_Y5_at : ∀ w ∈ v_Y5_at, w ∈ v_Y7_carryAlone := fun w h => List.mem_cons_of_mem _ (List.mem_append_right _ (List.mem_append_right _ (List.mem_append_right _ (List.mem_append_right _ (List.mem_append_left _ h)))))
  have j_Y4_amends : ∀ w ∈ v_Y4_amends, w ∈ v_Y7_carryAlone := fun w h => List.mem_cons_of_mem _ (List.mem_append_right _ (List.mem_append_right _ (List.mem_append_right _ (List.mem_append_right _ (List.mem_append_right _ (List.mem_append_left _ h))))))
  have j_Y7_amend : ∀ w ∈ v_Y7_amend, w ∈ v_Y7_carryAlone := fun w h => List.mem_cons_of_mem _ (List.mem_append_right _ (List.mem_append_right _ (List.mem_append_right _ (List.mem_append_right _ (List.mem_append_right _ (List.mem_append_right _ (List.mem_append_left _ h)))))))
  have j_Y2_empty : ∀ w ∈ v_Y2_empty, w ∈ v_Y7_carryAlone := fun w h => List.mem_cons_of_mem _ (List.mem_append_right _ (List.mem_append_right _ (List.mem_append_right _ (List.mem_append_right _ (List.mem_append_right _ (List.mem_append_right _ (List.mem_append_right _ (List.mem_append_left _ h))))))))
  have j_Y9_become : ∀ w ∈ v_Y9_become, w ∈ v_Y7_carryAlone := fun w h => List.mem_cons_of_mem _ (List.mem_append_right _ (List.mem_append_right _ (List.mem_append_right _ (List.mem_append_right _ (List.mem_append_right _ (List.mem_append_right _ (List.mem_append_right _ (List.mem_append_right _ (List.mem_append_left _ h)))))))))
  have hown : s.vm.findClass RX7 = some m.cls := findClass_of_methodNamed B.named
  have hlocks := B.notSynchronized
  subst hsz
  have hD := hD0.self (sz := s.heap.size)
  generalize hAe : va_A (wsC K ad S0) s.heap.size = A at hD ⊢
  have hA : ∀ q : Nat, s.heap.size ≤ q → A q := fun q h => by rw [← hAe]; exact Or.inr h
  have hS : va_S A s.heap s.heap [] := va_S.rf
  have hl : lv_has (lg_sl ([.ref (ad x0), va_re ad a1]) ++ List.replicate (3 - (lg_sl ([.ref (ad x0), va_re ad a1])).length) Slot.unset).toArray 3 [(0, .ref (ad x0)), (1, va_re ad a1)] := by
    cases a1 <;> exact lv_entry _ (n := 3) (Nat.le_of_ble_eq_true rfl)
  rw [lg_entry_eq]
  generalize (lg_sl ([.ref (ad x0), va_re ad a1]) ++ List.replicate (3 - (lg_sl ([.ref (ad x0), va_re ad a1])).length) Slot.unset).toArray = ls_ at hl ⊢
  refine wGen (fun Q hQ => ?_)
  obtain ⟨X, hX⟩ : ∃ X, f_Y7_carryAlone S0 x0 a1 = X := ⟨_, rfl⟩
  have B_Y7_carryAlone_106 : ∀ (S : Cst) (x1 : Option Nat) (x2 : Option Nat) (H : Heap) (locs : List Loc) (ls_ : Array Slot), b_Y7_carryAlone_106 S x0 x1 x2 = X → q_Y7_carryAlone_106 S x0 x1 x2 → eK S0 S → va_P G vwCl (wsC K ad S) H → va_D A (wsC K ad S) → va_S A s.heap H locs → lv_has ls_ 3 [(0, .ref (ad x0)), (1, va_re ad x1), (2, va_re ad x2)] → W p l e ({ frames := 3, cells := 0, slots := 0, locals := 111 } : Room) s m #[Value.ref (ad x0), va_re ad a1] below meth c H locs 0 0 Q (F0 m 106 ls_ []) := by
    intro S x1 x2 H locs ls_ hE hp hZ hP hD hS hl
    unfold b_Y7_carryAlone_106 at hE
    unfold q_Y7_carryAlone_106 at hp
    subst hQ
    exact W.vret hx hb hr (fun t ht hW => ⟨⟨S, rfl, ⟨hE.trans hX.symm, hZ⟩, by rw [ht]; exact hP, hD⟩, hS.F ht⟩) hS.2.2 dX7_carryAlone_106
  have B_Y7_carryAlone_89 : ∀ (S : Cst) (x1 : Option Nat) (x2 : Option Nat) (H : Heap) (locs : List Loc) (ls_ : Array Slot), b_Y7_carryAlone_89 S x0 x1 x2 = X → q_Y7_carryAlone_89 S x0 x1 x2 → eK S0 S → va_P G vwCl (wsC K ad S) H → va_D A (wsC K ad S) → va_S A s.heap H locs → lv_has ls_ 3 [(0, .ref (ad x0)), (1, va_re ad x1), (2, va_re ad x2)] → W p l e ({ frames := 3, cells := 0, slots := 0, locals := 111 } : Room) s m #[Value.ref (ad x0), va_re ad a1] below meth c H locs 0 0 Q (F0 m 89 ls_ []) := by
    intro S x1 x2 H locs ls_ hE hp hZ hP hD hS hl
    unfold b_Y7_carryAlone_89 at hE
    unfold q_Y7_carryAlone_89 at hp
    refine cAload_n (ad := ad) (r := x2) hx hb dX7_carryAlone_89 rfl (lv_at hl 2 rfl) ?_
    refine cIfnull (ad := ad) (r := x2) (tgt := 106) hx hb dX7_carryAlone_90 (by decide) (fun c11 => ?_) (fun c11 => ?_)
    · rw [if_pos c11] at hE hp
      exact B_Y7_carryAlone_106 S x1 x2 _ _ _ hE hp hZ hP hD hS (lv_sub hl [0, 1, 2] rfl)
    · rw [if_neg c11] at hE hp
      refine cAload_n (ad := ad) (r := x1) hx hb dX7_carryAlone_93 rfl (lv_at hl 1 rfl) ?_
      obtain ⟨hy12, hp⟩ := hp
      refine cTop (r := x1) hy12.1 ?_
      obtain ⟨hy13, hp⟩ := hp
      refine cGoi (va_runV (As := []) (rest := []) ⟨hx, hb, hml, hown, hts⟩ (c_Y4_amends l G K ad S (x1.getD 0) _) (cwV 0 hts (wGV t_ (mw (.methodLink RX7 122 yX4_amends) (List.mem_of_getElem? (i := 7) rfl)) (mw (.instanceMethod yX4_amends) (List.mem_of_getElem? (i := 8) rfl)) (mw (.selects RX4 yX4_amends yX4_amends) (List.mem_of_getElem? (i := 9) rfl)) (mw (.initialized RX4) (List.mem_of_getElem? (i := 10) rfl)) j_Y4_amends) rfl rfl rfl (by decide +kernel) ⟨Nat.le_of_ble_eq_true rfl, Nat.le_of_ble_eq_true rfl⟩) (cPV hK hTE hP hD 3 rfl (at_3 hy12.2) ⟨hy12.2, hy13⟩) rfl rfl hl.1 rfl (lv_room (Nat.le_of_ble_eq_true rfl)) dX7_carryAlone_94 ⟨Nat.le_of_ble_eq_true rfl, Nat.le_of_ble_eq_true rfl⟩) hP hD hS hA (fun r15 u14 H locs hv hP hD hS => ?_)
      have h1 := congrArg Prod.fst hv
      have h2 := (congrArg Prod.snd hv).symm
      dsimp only at h1 h2
      subst h1
      subst h2
      refine lv_if_eq (tgt := 106) hx hb dX7_carryAlone_97 (by decide) (fun c16 => ?_) (fun c16 => ?_)
      · rw [if_pos c16] at hE hp
        exact B_Y7_carryAlone_106 S x1 x2 _ _ _ hE hp hZ hP hD hS (lv_sub hl [0, 1, 2] rfl)
      · rw [if_neg c16] at hE hp
        refine lv_aload_n hx hb dX7_carryAlone_100 rfl (lv_at hl 0 rfl) ?_
        refine cAload_n (ad := ad) (r := x2) hx hb dX7_carryAlone_101 rfl (lv_at hl 2 rfl) ?_
        refine cAload_n (ad := ad) (r := x1) hx hb dX7_carryAlone_102 rfl (lv_at hl 1 rfl) ?_
        obtain ⟨hy17, hp⟩ := hp
        refine cGov (va_runS (As := [.ref (ad x0), va_re ad x2, va_re ad x1]) (rest := []) ⟨hx, hb, hml, hown, hts⟩ (c_Y7_amend l G K ad S x0 x2 x1 _) (va_cwS 3 hts (wGS t_ (mw (.methodLink RX7 125 yX7_amend) (List.mem_of_getElem? (i := 11) rfl)) (mw (.static yX7_amend) (List.mem_of_getElem? (i := 12) rfl)) (mw (.initialized RX7) (List.mem_of_getElem? (i := 13) rfl)) j_Y7_amend) rfl rfl rfl (by decide +kernel) ⟨Nat.le_of_ble_eq_true rfl, Nat.le_of_ble_eq_true rfl⟩) (cPS hK hTE hP hD ⟨(k_x0.e hZ), hy17⟩) rfl rfl hl.1 rfl (lv_room (Nat.le_of_ble_eq_true rfl)) dX7_carryAlone_103 ⟨Nat.le_of_ble_eq_true rfl, Nat.le_of_ble_eq_true rfl⟩) hP hD hS hA (fun u18 H locs hv hP hD hS => ?_)
        obtain ⟨hv, hz⟩ := hv
        have hZ := hZ.tr hz
        rw [← hv] at hE hp
        dsimp only at hE hp
        exact B_Y7_carryAlone_106 u18 x1 x2 _ _ _ hE hp hZ hP hD hS (lv_sub hl [0, 1, 2] rfl)
  have B_Y7_carryAlone_65a : ∀ (S : Cst) (x1 : Option Nat) (x2 : Option Nat) (H : Heap) (locs : List Loc) (ls_ : Array Slot), b_Y7_carryAlone_65a S x0 x1 x2 = X → q_Y7_carryAlone_65a S x0 x1 x2 → eK S0 S → va_P G vwCl (wsC K ad S) H → va_D A (wsC K ad S) → va_S A s.heap H locs → lv_has ls_ 3 [(0, .ref (ad x0)), (1, va_re ad x1), (2, va_re ad x2)] → W p l e ({ frames := 3, cells := 0, slots := 0, locals := 111 } : Room) s m #[Value.ref (ad x0), va_re ad a1] below meth c H locs 0 0 Q (F0 m 65 ls_ []) := by
    intro S x1 x2 H locs ls_ hE hp hZ hP hD hS hl
    unfold b_Y7_carryAlone_65a at hE
    unfold q_Y7_carryAlone_65a at hp
    refine lv_goto (tgt := 106) hx hb dX7_carryAlone_65 (by decide) ?_
    exact B_Y7_carryAlone_106 S x1 x2 _ _ _ hE hp hZ hP hD hS (lv_sub hl [0, 1, 2] rfl)
  have B_Y7_carryAlone_36a : ∀ (S : Cst) (x1 : Option Nat) (x2 : Option Nat) (H : Heap) (locs : List Loc) (ls_ : Array Slot), b_Y7_carryAlone_36a S x0 x1 x2 = X → q_Y7_carryAlone_36a S x0 x1 x2 → eK S0 S → va_P G vwCl (wsC K ad S) H → va_D A (wsC K ad S) → va_S A s.heap H locs → lv_has ls_ 3 [(0, .ref (ad x0)), (1, va_re ad x1), (2, va_re ad x2)] → W p l e ({ frames := 3, cells := 0, slots := 0, locals := 111 } : Room) s m #[Value.ref (ad x0), va_re ad a1] below meth c H locs 0 0 Q (F0 m 36 ls_ []) := by
    intro S x1 x2 H locs ls_ hE hp hZ hP hD hS hl
    unfold b_Y7_carryAlone_36a at hE
    unfold q_Y7_carryAlone_36a at hp
    refine lv_aload_n hx hb dX7_carryAlone_36 rfl (lv_at hl 0 rfl) ?_
    refine lv_dup hx hb dX7_carryAlone_37 rfl ?_
    refine va_get (D := G) (ci := 0) (v := .int (giC S x0 7)) (C := RX0) (T := TX0) (N := 11) hx hb hts iX0 hown hK hP x0 (at_0 (k_x0.e hZ)) rfl 7 (by decide) (hw (.fieldLink RX7 112 "MotionFloor$Assembly" "adoptions" "I") (List.mem_of_getElem? (i := 26) rfl)) (fun _ h9 => h9) rfl dX7_carryAlone_38 ?_
    refine lv_iconst (v := 1) hx hb dX7_carryAlone_41 (by decide) ?_
    refine lv_iadd hx hb dX7_carryAlone_42 ?_
    refine va_put (D := G) (ci := 0) (v := .int ((giC S x0 7) + 1)) (ty := .int) (C := RX0) (T := TX0) (N := 11) hx hb hts iX0 tyX0 tyX0_ok nmX0 hown hK hP hD hS x0 (at_0 (k_x0.e hZ)) rfl 7 (by decide) (hw (.fieldLink RX7 112 "MotionFloor$Assembly" "adoptions" "I") (List.mem_of_getElem? (i := 26) rfl)) (fun _ h9 => h9) rfl (by decide +kernel) rfl rfl (Nat.le_of_ble_eq_true rfl) dX7_carryAlone_43 (fun H locs hP hD hS => ?_)
    rw [st_0_7 (k_x0.e hZ)] at hP hD
    have hZ := hZ.tr (eK.si S x0 7 ((giC S x0 7) + 1))
    refine lv_goto (tgt := 106) hx hb dX7_carryAlone_46 (by decide) ?_
    exact B_Y7_carryAlone_106 (siC S x0 7 ((giC S x0 7) + 1)) x1 x2 _ _ _ hE hp hZ hP hD hS (lv_sub hl [0, 1, 2] rfl)
  have B_Y7_carryAlone_16a : ∀ (S : Cst) (x1 : Option Nat) (o0 : Option Nat) (H : Heap) (locs : List Loc) (ls_ : Array Slot), b_Y7_carryAlone_16a S x0 x1 o0 = X → q_Y7_carryAlone_16a S x0 x1 o0 → eK S0 S → va_P G vwCl (wsC K ad S) H → va_D A (wsC K ad S) → va_S A s.heap H locs → lv_has ls_ 3 [(0, .ref (ad x0)), (1, va_re ad x1)] → W p l e ({ frames := 3, cells := 0, slots := 0, locals := 111 } : Room) s m #[Value.ref (ad x0), va_re ad a1] below meth c H locs 0 0 Q (F0 m 16 ls_ [va_re ad o0]) := by
    intro S x1 o0 H locs ls_ hE hp hZ hP hD hS hl
    unfold b_Y7_carryAlone_16a at hE
    unfold q_Y7_carryAlone_16a at hp
    refine cAstore_n (ad := ad) (r := o0) (i := 2) (lv' := [(2, va_re ad o0), (0, .ref (ad x0)), (1, va_re ad x1)]) hx hb dX7_carryAlone_16 rfl hl (by decide) (by simp [List.filter, re_cat]) (fun ls_ hl => ?_)
    refine cAload_n (ad := ad) (r := x1) hx hb dX7_carryAlone_17 rfl (lv_at hl 2 rfl) ?_
    obtain ⟨hy6, hp⟩ := hp
    refine cTop (r := x1) hy6.1 ?_
    refine va_get (D := G) (ci := 3) (v := .int (giC S (x1.getD 0) 2)) (C := RX4) (T := TX4) (N := 16) hx hb hts iX4 hown hK hP (x1.getD 0) (at_3 hy6.2) rfl 2 (by decide) (hw (.fieldLink RX7 37 "MotionFloor$Motion" "kind" "I") (List.mem_of_getElem? (i := 6) rfl)) (fun _ h9 => h9) rfl dX7_carryAlone_18 ?_
    refine lv_iconst (v := 1) hx hb dX7_carryAlone_21 (by decide) ?_
    refine lv_icmp_ne (tgt := 49) hx hb dX7_carryAlone_22 (by decide) (fun c7 => ?_) (fun c7 => ?_)
    · rw [if_neg c7] at hE hp
      refine cAload_n (ad := ad) (r := x1) hx hb dX7_carryAlone_49 rfl (lv_at hl 2 rfl) ?_
      obtain ⟨hy8, hp⟩ := hp
      refine cTop (r := x1) hy8.1 ?_
      refine va_get (D := G) (ci := 3) (v := .int (giC S (x1.getD 0) 2)) (C := RX4) (T := TX4) (N := 16) hx hb hts iX4 hown hK hP (x1.getD 0) (at_3 hy8.2) rfl 2 (by decide) (hw (.fieldLink RX7 37 "MotionFloor$Motion" "kind" "I") (List.mem_of_getElem? (i := 6) rfl)) (fun _ h9 => h9) rfl dX7_carryAlone_50 ?_
      refine lv_bipush (v := 8) hx hb dX7_carryAlone_53 (by decide) ?_
      refine lv_icmp_ne (tgt := 68) hx hb dX7_carryAlone_55 (by decide) (fun c9 => ?_) (fun c9 => ?_)
      · rw [if_neg c9] at hE hp
        refine cAload_n (ad := ad) (r := o0) hx hb dX7_carryAlone_68 rfl (lv_at hl 0 rfl) ?_
        refine cIfnull (ad := ad) (r := o0) (tgt := 89) hx hb dX7_carryAlone_69 (by decide) (fun c10 => ?_) (fun c10 => ?_)
        · rw [if_pos c10] at hE hp
          exact B_Y7_carryAlone_89 S x1 o0 _ _ _ hE hp hZ hP hD hS (lv_sub hl [1, 2, 0] rfl)
        · rw [if_neg c10] at hE hp
          refine cAload_n (ad := ad) (r := x1) hx hb dX7_carryAlone_72 rfl (lv_at hl 2 rfl) ?_
          obtain ⟨hy20, hp⟩ := hp
          refine cTop (r := x1) hy20.1 ?_
          refine va_get (D := G) (ci := 3) (v := .int (giC S (x1.getD 0) 2)) (C := RX4) (T := TX4) (N := 16) hx hb hts iX4 hown hK hP (x1.getD 0) (at_3 hy20.2) rfl 2 (by decide) (hw (.fieldLink RX7 37 "MotionFloor$Motion" "kind" "I") (List.mem_of_getElem? (i := 6) rfl)) (fun _ h9 => h9) rfl dX7_carryAlone_73 ?_
          refine lv_bipush (v := 6) hx hb dX7_carryAlone_76 (by decide) ?_
          refine lv_icmp_ne (tgt := 89) hx hb dX7_carryAlone_78 (by decide) (fun c21 => ?_) (fun c21 => ?_)
          · rw [if_neg c21] at hE hp
            exact B_Y7_carryAlone_89 S x1 o0 _ _ _ hE hp hZ hP hD hS (lv_sub hl [1, 2, 0] rfl)
          · rw [if_pos c21] at hE hp
            refine cAload_n (ad := ad) (r := o0) hx hb dX7_carryAlone_81 rfl (lv_at hl 0 rfl) ?_
            refine lv_iconst (v := 1) hx hb dX7_carryAlone_82 (by decide) ?_
            obtain ⟨hy22, hp⟩ := hp
            refine cTop2 (r := o0) hy22.1 ?_
            refine va_put (D := G) (ci := 3) (v := .int 1) (ty := .boolean) (C := RX4) (T := TX4) (N := 16) hx hb hts iX4 tyX4 tyX4_ok nmX4 hown hK hP hD hS (o0.getD 0) (at_3 hy22.2) rfl 7 (by decide) (hw (.fieldLink RX7 118 "MotionFloor$Motion" "closed" "Z") (List.mem_of_getElem? (i := 14) rfl)) (fun _ h9 => h9) rfl (by decide +kernel) rfl rfl (Nat.le_of_ble_eq_true rfl) dX7_carryAlone_83 (fun H locs hP hD hS => ?_)
            rw [st_3_7 hy22.2] at hP hD
            have hZ := hZ.tr (eK.si S (o0.getD 0) 7 (1 : Int32))
            refine lv_goto (tgt := 106) hx hb dX7_carryAlone_86 (by decide) ?_
            exact B_Y7_carryAlone_106 (siC S (o0.getD 0) 7 (1 : Int32)) x1 o0 _ _ _ hE hp hZ hP hD hS (lv_sub hl [1, 2, 0] rfl)
      · rw [if_pos c9] at hE hp
        refine lv_aload_n hx hb dX7_carryAlone_58 rfl (lv_at hl 1 rfl) ?_
        refine va_get (D := G) (ci := 0) (v := va_re ad (grC S x0 0)) (C := RX0) (T := TX0) (N := 11) hx hb hts iX0 hown hK hP x0 (at_0 (k_x0.e hZ)) rfl 0 (by decide) (hw (.fieldLink RX7 9 "MotionFloor$Assembly" "house" "LMotionFloor$House;") (List.mem_of_getElem? (i := 15) rfl)) (fun _ h9 => h9) rfl dX7_carryAlone_59 ?_
        obtain ⟨hy23, hp⟩ := hp
        refine cTop (r := (grC S x0 0)) hy23.1 ?_
        obtain ⟨hy24, hp⟩ := hp
        refine cGov (va_runV (As := []) (rest := []) ⟨hx, hb, hml, hown, hts⟩ (c_Y2_empty l G K ad S ((grC S x0 0).getD 0) _) (cwV 0 hts (wGV t_ (mw (.methodLink RX7 115 yX2_empty) (List.mem_of_getElem? (i := 16) rfl)) (mw (.instanceMethod yX2_empty) (List.mem_of_getElem? (i := 17) rfl)) (mw (.selects RX2 yX2_empty yX2_empty) (List.mem_of_getElem? (i := 18) rfl)) (mw (.initialized RX2) (List.mem_of_getElem? (i := 19) rfl)) j_Y2_empty) rfl rfl rfl (by decide +kernel) ⟨Nat.le_of_ble_eq_true rfl, Nat.le_of_ble_eq_true rfl⟩) (cPV hK hTE hP hD 1 rfl (at_1 hy23.2) ⟨hy23.2, hy24⟩) rfl rfl hl.1 rfl (lv_room (Nat.le_of_ble_eq_true rfl)) dX7_carryAlone_62 ⟨Nat.le_of_ble_eq_true rfl, Nat.le_of_ble_eq_true rfl⟩) hP hD hS hA (fun u25 H locs hv hP hD hS => ?_)
        obtain ⟨hv, hz⟩ := hv
        have hZ := hZ.tr hz
        rw [← hv] at hE hp
        dsimp only at hE hp
        exact B_Y7_carryAlone_65a u25 x1 o0 _ _ _ hE hp hZ hP hD hS (lv_sub hl [1, 2, 0] rfl)
    · rw [if_pos c7] at hE hp
      refine lv_aload_n hx hb dX7_carryAlone_25 rfl (lv_at hl 1 rfl) ?_
      refine va_get (D := G) (ci := 0) (v := va_re ad (grC S x0 6)) (C := RX0) (T := TX0) (N := 11) hx hb hts iX0 hown hK hP x0 (at_0 (k_x0.e hZ)) rfl 6 (by decide) (hw (.fieldLink RX7 99 "MotionFloor$Assembly" "adopted" "LMotionFloor$Text;") (List.mem_of_getElem? (i := 20) rfl)) (fun _ h9 => h9) rfl dX7_carryAlone_26 ?_
      refine cAload_n (ad := ad) (r := x1) hx hb dX7_carryAlone_29 rfl (lv_at hl 2 rfl) ?_
      obtain ⟨hy27, hp⟩ := hp
      refine cTop (r := x1) hy27.1 ?_
      refine va_get (D := G) (ci := 3) (v := va_re ad (grC S (x1.getD 0) 12)) (C := RX4) (T := TX4) (N := 16) hx hb hts iX4 hown hK hP (x1.getD 0) (at_3 hy27.2) rfl 12 (by decide) (hw (.fieldLink RX7 103 "MotionFloor$Motion" "text" "LMotionFloor$Text;") (List.mem_of_getElem? (i := 21) rfl)) (fun _ h9 => h9) rfl dX7_carryAlone_30 ?_
      obtain ⟨hy28, hp⟩ := hp
      refine cTop2 (r := (grC S x0 6)) hy28.1 ?_
      obtain ⟨hy29, hp⟩ := hp
      refine cTop (r := (grC S (x1.getD 0) 12)) hy29.1 ?_
      obtain ⟨hy30, hp⟩ := hp
      refine cGov (va_runV (As := [.ref (ad ((grC S (x1.getD 0) 12).getD 0))]) (rest := []) ⟨hx, hb, hml, hown, hts⟩ (c_Y9_become l G K ad S ((grC S x0 6).getD 0) ((grC S (x1.getD 0) 12).getD 0) _) (cwV 1 hts (wGV t_ (mw (.methodLink RX7 106 yX9_become) (List.mem_of_getElem? (i := 22) rfl)) (mw (.instanceMethod yX9_become) (List.mem_of_getElem? (i := 23) rfl)) (mw (.selects RX9 yX9_become yX9_become) (List.mem_of_getElem? (i := 24) rfl)) (mw (.initialized RX9) (List.mem_of_getElem? (i := 25) rfl)) j_Y9_become) rfl rfl rfl (by decide +kernel) ⟨Nat.le_of_ble_eq_true rfl, Nat.le_of_ble_eq_true rfl⟩) (cPV hK hTE hP hD 6 rfl (at_6 hy28.2) ⟨hy28.2, hy29.2, hy30⟩) rfl rfl hl.1 rfl (lv_room (Nat.le_of_ble_eq_true rfl)) dX7_carryAlone_33 ⟨Nat.le_of_ble_eq_true rfl, Nat.le_of_ble_eq_true rfl⟩) hP hD hS hA (fun u31 H locs hv hP hD hS => ?_)
      obtain ⟨hv, hz⟩ := hv
      have hZ := hZ.tr hz
      rw [← hv] at hE hp
      dsimp only at hE hp
      exact B_Y7_carryAlone_36a u31 x1 o0 _ _ _ hE hp hZ hP hD hS (lv_sub hl [1, 2, 0] rfl)
  have B_M : ∀ (S : Cst) (x1 : Option Nat) (H : Heap) (locs : List Loc) (ls_ : Array Slot), f_Y7_carryAlone S x0 x1 = X → p_Y7_carryAlone S x0 x1 → eK S0 S → va_P G vwCl (wsC K ad S) H → va_D A (wsC K ad S) → va_S A s.heap H locs → lv_has ls_ 3 [(0, .ref (ad x0)), (1, va_re ad x1)] → W p l e ({ frames := 3, cells := 0, slots := 0, locals := 111 } : Room) s m #[Value.ref (ad x0), va_re ad a1] below meth c H locs 0 0 Q (F0 m 0 ls_ []) := by
    intro S x1 H locs ls_ hE hp hZ hP hD hS hl
    unfold f_Y7_carryAlone at hE
    unfold p_Y7_carryAlone at hp
    refine lv_aload_n hx hb dX7_carryAlone_0 rfl (lv_at hl 0 rfl) ?_
    refine va_get (D := G) (ci := 0) (v := va_re ad (grC S x0 1)) (C := RX0) (T := TX0) (N := 11) hx hb hts iX0 hown hK hP x0 (at_0 (k_x0.e hZ)) rfl 1 (by decide) (hw (.fieldLink RX7 58 "MotionFloor$Assembly" "pending" "LMotionFloor$Pile;") (List.mem_of_getElem? (i := 0) rfl)) (fun _ h9 => h9) rfl dX7_carryAlone_1 ?_
    refine lv_aload_n hx hb dX7_carryAlone_4 rfl (lv_at hl 0 rfl) ?_
    refine va_get (D := G) (ci := 0) (v := va_re ad (grC S x0 1)) (C := RX0) (T := TX0) (N := 11) hx hb hts iX0 hown hK hP x0 (at_0 (k_x0.e hZ)) rfl 1 (by decide) (hw (.fieldLink RX7 58 "MotionFloor$Assembly" "pending" "LMotionFloor$Pile;") (List.mem_of_getElem? (i := 0) rfl)) (fun _ h9 => h9) rfl dX7_carryAlone_5 ?_
    obtain ⟨hy1, hp⟩ := hp
    refine cTop (r := (grC S x0 1)) hy1.1 ?_
    refine va_get (D := G) (ci := 4) (v := .int (giC S ((grC S x0 1).getD 0) 1)) (C := RX5) (T := TX5) (N := 2) hx hb hts iX5 hown hK hP ((grC S x0 1).getD 0) (at_4 hy1.2) rfl 1 (by decide) (hw (.fieldLink RX7 92 "MotionFloor$Pile" "size" "I") (List.mem_of_getElem? (i := 1) rfl)) (fun _ h9 => h9) rfl dX7_carryAlone_8 ?_
    refine lv_iconst (v := 2) hx hb dX7_carryAlone_11 (by decide) ?_
    refine lv_isub hx hb dX7_carryAlone_12 ?_
    obtain ⟨hy2, hp⟩ := hp
    refine cTop2 (r := (grC S x0 1)) hy2.1 ?_
    obtain ⟨hy3, hp⟩ := hp
    refine cGoq (va_runV (As := [.int ((giC S ((grC S x0 1).getD 0) 1) - 2)]) (rest := []) ⟨hx, hb, hml, hown, hts⟩ (c_Y5_at l G K ad S ((grC S x0 1).getD 0) ((giC S ((grC S x0 1).getD 0) 1) - 2) _) (cwV 1 hts (wGV t_ (mw (.methodLink RX7 95 yX5_at) (List.mem_of_getElem? (i := 2) rfl)) (mw (.instanceMethod yX5_at) (List.mem_of_getElem? (i := 3) rfl)) (mw (.selects RX5 yX5_at yX5_at) (List.mem_of_getElem? (i := 4) rfl)) (mw (.initialized RX5) (List.mem_of_getElem? (i := 5) rfl)) j_Y5_at) rfl rfl rfl (by decide +kernel) ⟨Nat.le_of_ble_eq_true rfl, Nat.le_of_ble_eq_true rfl⟩) (cPV hK hTE hP hD 4 rfl (at_4 hy2.2) ⟨hy2.2, hy3⟩) rfl rfl hl.1 rfl (lv_room (Nat.le_of_ble_eq_true rfl)) dX7_carryAlone_13 ⟨Nat.le_of_ble_eq_true rfl, Nat.le_of_ble_eq_true rfl⟩) hP hD hS hA (fun r5 u4 H locs hv hP hD hS => ?_)
    have h1 := congrArg Prod.fst hv
    have h2 := (congrArg Prod.snd hv).symm
    dsimp only at h1 h2
    subst h1
    subst h2
    exact B_Y7_carryAlone_16a S x1 (f_Y5_at S ((grC S x0 1).getD 0) ((giC S ((grC S x0 1).getD 0) 1) - 2)) _ _ _ hE hp hZ hP hD hS (lv_sub hl [0, 1] rfl)
  exact B_M S0 a1 _ _ _ hX hp (eK.rf S0) hP hD hS hl
theorem gdX7_commit_0 : ckS (List.drop 0 cX7_commit.data.toList) 0 [(0, .aload_n 0, 1), (1, .invokevirtual 167, 3), (4, .astore_n 1, 1), (5, .aload_n 0, 1), (6, .invokevirtual 171, 3), (9, .astore_n 2, 1), (10, .aload_n 2, 1), (11, .ifnull 18, 3), (14, .aload_n 1, 1), (15, .ifnull 14, 3), (18, .aload_n 2, 1), (19, .iconst 1, 1), (20, .invokevirtual 174, 3), (23, .aload_n 1, 1), (24, .iconst 1, 1), (25, .aload_n 2, 1), (26, .invokevirtual 178, 3), (29, .return_, 1)] = true := by decide +kernel
theorem dX7_commit_0 : decode cX7_commit 0 = .ok (.aload_n 0, 1) := ckS_g gdX7_commit_0 0 rfl
theorem dX7_commit_1 : decode cX7_commit 1 = .ok (.invokevirtual 167, 3) := ckS_g gdX7_commit_0 1 rfl
theorem dX7_commit_4 : decode cX7_commit 4 = .ok (.astore_n 1, 1) := ckS_g gdX7_commit_0 2 rfl
theorem dX7_commit_5 : decode cX7_commit 5 = .ok (.aload_n 0, 1) := ckS_g gdX7_commit_0 3 rfl
theorem dX7_commit_6 : decode cX7_commit 6 = .ok (.invokevirtual 171, 3) := ckS_g gdX7_commit_0 4 rfl
theorem dX7_commit_9 : decode cX7_commit 9 = .ok (.astore_n 2, 1) := ckS_g gdX7_commit_0 5 rfl
theorem dX7_commit_10 : decode cX7_commit 10 = .ok (.aload_n 2, 1) := ckS_g gdX7_commit_0 6 rfl
theorem dX7_commit_11 : decode cX7_commit 11 = .ok (.ifnull 18, 3) := ckS_g gdX7_commit_0 7 rfl
theorem dX7_commit_14 : decode cX7_commit 14 = .ok (.aload_n 1, 1) := ckS_g gdX7_commit_0 8 rfl
theorem dX7_commit_15 : decode cX7_commit 15 = .ok (.ifnull 14, 3) := ckS_g gdX7_commit_0 9 rfl
theorem dX7_commit_18 : decode cX7_commit 18 = .ok (.aload_n 2, 1) := ckS_g gdX7_commit_0 10 rfl
theorem dX7_commit_19 : decode cX7_commit 19 = .ok (.iconst 1, 1) := ckS_g gdX7_commit_0 11 rfl
theorem dX7_commit_20 : decode cX7_commit 20 = .ok (.invokevirtual 174, 3) := ckS_g gdX7_commit_0 12 rfl
theorem dX7_commit_23 : decode cX7_commit 23 = .ok (.aload_n 1, 1) := ckS_g gdX7_commit_0 13 rfl
theorem dX7_commit_24 : decode cX7_commit 24 = .ok (.iconst 1, 1) := ckS_g gdX7_commit_0 14 rfl
theorem dX7_commit_25 : decode cX7_commit 25 = .ok (.aload_n 2, 1) := ckS_g gdX7_commit_0 15 rfl
theorem dX7_commit_26 : decode cX7_commit 26 = .ok (.invokevirtual 178, 3) := ckS_g gdX7_commit_0 16 rfl
theorem dX7_commit_29 : decode cX7_commit 29 = .ok (.return_, 1) := ckS_g gdX7_commit_0 17 rfl
set_option maxRecDepth 100000 in
theorem zc348 : wZ (.selects RX6 yX6_hold yX6_hold) := ⟨wT3 (List.mem_of_getElem? (i := 109) (by decide +kernel)), Or.inl rfl⟩
set_option maxRecDepth 100000 in
theorem zc349 : wZ (.instanceMethod yX6_hold) := ⟨wT3 (List.mem_of_getElem? (i := 108) (by decide +kernel)), Or.inl rfl⟩
set_option maxRecDepth 100000 in
theorem zc350 : wZ (.methodLink RX7 178 yX6_hold) := ⟨wT3 (List.mem_of_getElem? (i := 227) (by decide +kernel)), Or.inl rfl⟩
set_option maxRecDepth 100000 in
theorem zc351 : wZ (.methodLink RX7 174 yX4_keepTextAs) := ⟨wT3 (List.mem_of_getElem? (i := 226) (by decide +kernel)), Or.inl rfl⟩
set_option maxRecDepth 100000 in
theorem zc352 : wZ (.selects RX0 yX0_pullLowest yX0_pullLowest) := ⟨wT3 (List.mem_of_getElem? (i := 224) (by decide +kernel)), Or.inl rfl⟩
set_option maxRecDepth 100000 in
theorem zc353 : wZ (.instanceMethod yX0_pullLowest) := ⟨wT3 (List.mem_of_getElem? (i := 223) (by decide +kernel)), Or.inl rfl⟩
set_option maxRecDepth 100000 in
theorem zc354 : wZ (.methodLink RX7 171 yX0_pullLowest) := ⟨wT3 (List.mem_of_getElem? (i := 222) (by decide +kernel)), Or.inl rfl⟩
set_option maxRecDepth 100000 in
theorem zc355 : wZ (.selects RX0 yX0_firstFreePlace yX0_firstFreePlace) := ⟨wT3 (List.mem_of_getElem? (i := 220) (by decide +kernel)), Or.inl rfl⟩
set_option maxRecDepth 100000 in
theorem zc356 : wZ (.instanceMethod yX0_firstFreePlace) := ⟨wT3 (List.mem_of_getElem? (i := 219) (by decide +kernel)), Or.inl rfl⟩
set_option maxRecDepth 100000 in
theorem zc357 : wZ (.methodLink RX7 167 yX0_firstFreePlace) := ⟨wT3 (List.mem_of_getElem? (i := 218) (by decide +kernel)), Or.inl rfl⟩
set_option maxRecDepth 100000 in
theorem zc358 : wZ (.code yX7_commit cX7_commit 3 none) := ⟨wT3 (List.mem_of_getElem? (i := 217) rfl), Or.inl rfl⟩
def b_Y7_commit_29 (S : Cst) (x0 : Nat) (x1 : Option Nat) (x2 : Option Nat) : Int32 × Cst := (0, S)
def q_Y7_commit_29 (S : Cst) (x0 : Nat) (x1 : Option Nat) (x2 : Option Nat) : Prop := True
def b_Y7_commit_23a (S : Cst) (x0 : Nat) (x1 : Option Nat) (x2 : Option Nat) : Int32 × Cst := (b_Y7_commit_29 ((f_Y6_hold S (x1.getD 0) (1 : Int32) x2).2) x0 x1 x2)
def q_Y7_commit_23a (S : Cst) (x0 : Nat) (x1 : Option Nat) (x2 : Option Nat) : Prop := (iR S x1 5) ∧ (p_Y6_hold S (x1.getD 0) (1 : Int32) x2) ∧ (q_Y7_commit_29 ((f_Y6_hold S (x1.getD 0) (1 : Int32) x2).2) x0 x1 x2)
def b_Y7_commit_9a (S : Cst) (x0 : Nat) (x1 : Option Nat) (o0 : Option Nat) : Int32 × Cst := if o0 = none then (b_Y7_commit_29 S x0 x1 o0) else if x1 = none then (b_Y7_commit_29 S x0 x1 o0) else (b_Y7_commit_23a ((f_Y4_keepTextAs S (o0.getD 0) (1 : Int32)).2) x0 x1 o0)
def q_Y7_commit_9a (S : Cst) (x0 : Nat) (x1 : Option Nat) (o0 : Option Nat) : Prop := (if o0 = none then (q_Y7_commit_29 S x0 x1 o0) else (if x1 = none then (q_Y7_commit_29 S x0 x1 o0) else (iR S o0 3) ∧ (p_Y4_keepTextAs S (o0.getD 0) (1 : Int32)) ∧ (q_Y7_commit_23a ((f_Y4_keepTextAs S (o0.getD 0) (1 : Int32)).2) x0 x1 o0)))
def f_Y7_commit (S : Cst) (x0 : Nat) : Int32 × Cst := (b_Y7_commit_9a ((f_Y0_pullLowest S x0).2) x0 (f_Y0_firstFreePlace S x0) ((f_Y0_pullLowest S x0).1))
def p_Y7_commit (S : Cst) (x0 : Nat) : Prop := (p_Y0_firstFreePlace S x0) ∧ (p_Y0_pullLowest S x0) ∧ (q_Y7_commit_9a ((f_Y0_pullLowest S x0).2) x0 (f_Y0_firstFreePlace S x0) ((f_Y0_pullLowest S x0).1))
def e_Y7_commit : List Cond := [.methodLink RX7 167 yX0_firstFreePlace, .instanceMethod yX0_firstFreePlace, .selects RX0 yX0_firstFreePlace yX0_firstFreePlace, .initialized RX0, .methodLink RX7 171 yX0_pullLowest, .instanceMethod yX0_pullLowest, .selects RX0 yX0_pullLowest yX0_pullLowest, .methodLink RX7 174 yX4_keepTextAs, .instanceMethod yX4_keepTextAs, .selects RX4 yX4_keepTextAs yX4_keepTextAs, .initialized RX4, .methodLink RX7 178 yX6_hold, .instanceMethod yX6_hold, .selects RX6 yX6_hold yX6_hold, .initialized RX6]
def v_Y7_commit : List Cond := .code yX7_commit cX7_commit 3 none :: (e_Y7_commit ++ (v_Y0_firstFreePlace ++ (v_Y0_pullLowest ++ (v_Y4_keepTextAs ++ (v_Y6_hold ++ [])))))
theorem te_Y7_commit : GoodIn lw_tbl e_Y7_commit := wGc zc357 (wGc zc356 (wGc zc355 (wGc zc39 (wGc zc354 (wGc zc353 (wGc zc352 (wGc zc351 (wGc zc264 (wGc zc263 (wGc zc170 (wGc zc350 (wGc zc349 (wGc zc348 (wGc zc112 (wG0)))))))))))))))
theorem t_Y7_commit : GoodIn lw_tbl v_Y7_commit := wGc zc358 (wGa te_Y7_commit (wGa t_Y0_firstFreePlace (wGa t_Y0_pullLowest (wGa t_Y4_keepTextAs (wGa t_Y6_hold (wG0))))))
set_option maxHeartbeats 4000000 in
set_option maxRecDepth 100000 in
theorem c_Y7_commit (l : Launch) (G : va_G) (K : Nat → ClassId) (ad : Nat → Nat) (S0 : Cst) (x0 : Nat)  (sz : Nat) : Met l yX7_commit v_Y7_commit ({ frames := 3, cells := 0, slots := 0, locals := 64 }) (va_Pc [.ref (ad x0)] (cSt G K ad sz S0 (iK S0 x0 0 ∧ p_Y7_commit S0 x0))) (va_Qv (fun u : Cst => (0, u) = f_Y7_commit S0 x0 ∧ eK S0 u) (cBt G K ad (va_A (wsC K ad S0) sz)) (va_A (wsC K ad S0) sz)) 0 0 (va_A (wsC K ad S0) sz) := by
  refine Met.ofW (cc := cX7_commit) (maxL := 3) (ret := none) (by decide) rfl ?_
  intro p e s m args below meth c s₁ B hml hv
  obtain ⟨rfl, ⟨hsz, hP, hK, hD0, hTE⟩, hp⟩ := hv
  obtain ⟨k_x0, hp⟩ := hp
  have hx := B.exec
  have hb := B.bytes
  have hr := B.returns
  have hts := atoms_spec (ws := v_Y7_commit) B.pre
  have t_ := t_Y7_commit
  have mw : ∀ w ∈ e_Y7_commit, w ∈ v_Y7_commit := fun w h => List.mem_cons_of_mem _ (List.mem_append_left _ h)
  have hw := fun w (h : w ∈ e_Y7_commit) => hts w (mw w h)
  have j_Y0_firstFreePlace : ∀ w ∈ v_Y0_firstFreePlace, w ∈ v_Y7_commit := fun w h => List.mem_cons_of_mem _ (List.mem_append_right _ (List.mem_append_left _ h))
  have j_Y0_pullLowest : ∀ w ∈ v_Y0_pullLowest, w ∈ v_Y7_commit := fun w h => List.mem_cons_of_mem _ (List.mem_append_right _ (List.mem_append_right _ (List.mem_append_left _ h)))
  have j_Y4_keepTextAs : ∀ w ∈ v_Y4_keepTextAs, w ∈ v_Y7_commit := fun w h => List.mem_cons_of_mem _ (List.mem_append_right _ (List.mem_append_right _ (List.mem_append_right _ (List.mem_append_left _ h))))
  have j_Y6_hold : ∀ w ∈ v_Y6_hold, w ∈ v_Y7_commit := fun w h => List.mem_cons_of_mem _ (List.mem_append_right _ (List.mem_append_right _ (List.mem_append_right _ (List.mem_append_right _ (List.mem_append_left _ h)))))
  have hown : s.vm.findClass RX7 = some m.cls := findClass_of_methodNamed B.named
  have hlocks := B.notSynchronized
  subst hsz
  have hD := hD0.self (sz := s.heap.size)
  generalize hAe : va_A (wsC K ad S0) s.heap.size = A at hD ⊢
  have hA : ∀ q : Nat, s.heap.size ≤ q → A q := fun q h => by rw [← hAe]; exact Or.inr h
  have hS : va_S A s.heap s.heap [] := va_S.rf
  have hl : lv_has (lg_sl ([.ref (ad x0)]) ++ List.replicate (3 - (lg_sl ([.ref (ad x0)])).length) Slot.unset).toArray 3 [(0, .ref (ad x0))] := by
    exact lv_entry ([.ref (ad x0)]) (n := 3) (Nat.le_of_ble_eq_true rfl)
  rw [lg_entry_eq]
  generalize (lg_sl ([.ref (ad x0)]) ++ List.replicate (3 - (lg_sl ([.ref (ad x0)])).length) Slot.unset).toArray = ls_ at hl ⊢
  refine wGen (fun Q hQ => ?_)
  obtain ⟨X, hX⟩ : ∃ X, f_Y7_commit S0 x0 = X := ⟨_, rfl⟩
  have B_Y7_commit_29 : ∀ (S : Cst) (x1 : Option Nat) (x2 : Option Nat) (H : Heap) (locs : List Loc) (ls_ : Array Slot), b_Y7_commit_29 S x0 x1 x2 = X → q_Y7_commit_29 S x0 x1 x2 → eK S0 S → va_P G vwCl (wsC K ad S) H → va_D A (wsC K ad S) → va_S A s.heap H locs → lv_has ls_ 3 [(0, .ref (ad x0)), (1, va_re ad x1), (2, va_re ad x2)] → W p l e ({ frames := 3, cells := 0, slots := 0, locals := 64 } : Room) s m #[Value.ref (ad x0)] below meth c H locs 0 0 Q (F0 m 29 ls_ []) := by
    intro S x1 x2 H locs ls_ hE hp hZ hP hD hS hl
    unfold b_Y7_commit_29 at hE
    unfold q_Y7_commit_29 at hp
    subst hQ
    exact W.vret hx hb hr (fun t ht hW => ⟨⟨S, rfl, ⟨hE.trans hX.symm, hZ⟩, by rw [ht]; exact hP, hD⟩, hS.F ht⟩) hS.2.2 dX7_commit_29
  have B_Y7_commit_23a : ∀ (S : Cst) (x1 : Option Nat) (x2 : Option Nat) (H : Heap) (locs : List Loc) (ls_ : Array Slot), b_Y7_commit_23a S x0 x1 x2 = X → q_Y7_commit_23a S x0 x1 x2 → eK S0 S → va_P G vwCl (wsC K ad S) H → va_D A (wsC K ad S) → va_S A s.heap H locs → lv_has ls_ 3 [(0, .ref (ad x0)), (1, va_re ad x1), (2, va_re ad x2)] → W p l e ({ frames := 3, cells := 0, slots := 0, locals := 64 } : Room) s m #[Value.ref (ad x0)] below meth c H locs 0 0 Q (F0 m 23 ls_ []) := by
    intro S x1 x2 H locs ls_ hE hp hZ hP hD hS hl
    unfold b_Y7_commit_23a at hE
    unfold q_Y7_commit_23a at hp
    refine cAload_n (ad := ad) (r := x1) hx hb dX7_commit_23 rfl (lv_at hl 1 rfl) ?_
    refine lv_iconst (v := 1) hx hb dX7_commit_24 (by decide) ?_
    refine cAload_n (ad := ad) (r := x2) hx hb dX7_commit_25 rfl (lv_at hl 2 rfl) ?_
    obtain ⟨hy13, hp⟩ := hp
    refine cTop3 (r := x1) hy13.1 ?_
    obtain ⟨hy14, hp⟩ := hp
    refine cGov (va_runV (As := [.int 1, va_re ad x2]) (rest := []) ⟨hx, hb, hml, hown, hts⟩ (c_Y6_hold l G K ad S (x1.getD 0) (1 : Int32) x2 _) (cwV 2 hts (wGV t_ (mw (.methodLink RX7 178 yX6_hold) (List.mem_of_getElem? (i := 11) rfl)) (mw (.instanceMethod yX6_hold) (List.mem_of_getElem? (i := 12) rfl)) (mw (.selects RX6 yX6_hold yX6_hold) (List.mem_of_getElem? (i := 13) rfl)) (mw (.initialized RX6) (List.mem_of_getElem? (i := 14) rfl)) j_Y6_hold) rfl rfl rfl (by decide +kernel) ⟨Nat.le_of_ble_eq_true rfl, Nat.le_of_ble_eq_true rfl⟩) (cPV hK hTE hP hD 5 rfl (at_5 hy13.2) ⟨hy13.2, hy14⟩) rfl rfl hl.1 rfl (lv_room (Nat.le_of_ble_eq_true rfl)) dX7_commit_26 ⟨Nat.le_of_ble_eq_true rfl, Nat.le_of_ble_eq_true rfl⟩) hP hD hS hA (fun u15 H locs hv hP hD hS => ?_)
    obtain ⟨hv, hz⟩ := hv
    have hZ := hZ.tr hz
    rw [← hv] at hE hp
    dsimp only at hE hp
    exact B_Y7_commit_29 u15 x1 x2 _ _ _ hE hp hZ hP hD hS (lv_sub hl [0, 1, 2] rfl)
  have B_Y7_commit_9a : ∀ (S : Cst) (x1 : Option Nat) (o0 : Option Nat) (H : Heap) (locs : List Loc) (ls_ : Array Slot), b_Y7_commit_9a S x0 x1 o0 = X → q_Y7_commit_9a S x0 x1 o0 → eK S0 S → va_P G vwCl (wsC K ad S) H → va_D A (wsC K ad S) → va_S A s.heap H locs → lv_has ls_ 3 [(0, .ref (ad x0)), (1, va_re ad x1)] → W p l e ({ frames := 3, cells := 0, slots := 0, locals := 64 } : Room) s m #[Value.ref (ad x0)] below meth c H locs 0 0 Q (F0 m 9 ls_ [va_re ad o0]) := by
    intro S x1 o0 H locs ls_ hE hp hZ hP hD hS hl
    unfold b_Y7_commit_9a at hE
    unfold q_Y7_commit_9a at hp
    refine cAstore_n (ad := ad) (r := o0) (i := 2) (lv' := [(2, va_re ad o0), (0, .ref (ad x0)), (1, va_re ad x1)]) hx hb dX7_commit_9 rfl hl (by decide) (by simp [List.filter, re_cat]) (fun ls_ hl => ?_)
    refine cAload_n (ad := ad) (r := o0) hx hb dX7_commit_10 rfl (lv_at hl 0 rfl) ?_
    refine cIfnull (ad := ad) (r := o0) (tgt := 29) hx hb dX7_commit_11 (by decide) (fun c7 => ?_) (fun c7 => ?_)
    · rw [if_pos c7] at hE hp
      exact B_Y7_commit_29 S x1 o0 _ _ _ hE hp hZ hP hD hS (lv_sub hl [1, 2, 0] rfl)
    · rw [if_neg c7] at hE hp
      refine cAload_n (ad := ad) (r := x1) hx hb dX7_commit_14 rfl (lv_at hl 2 rfl) ?_
      refine cIfnull (ad := ad) (r := x1) (tgt := 29) hx hb dX7_commit_15 (by decide) (fun c8 => ?_) (fun c8 => ?_)
      · rw [if_pos c8] at hE hp
        exact B_Y7_commit_29 S x1 o0 _ _ _ hE hp hZ hP hD hS (lv_sub hl [1, 2, 0] rfl)
      · rw [if_neg c8] at hE hp
        refine cAload_n (ad := ad) (r := o0) hx hb dX7_commit_18 rfl (lv_at hl 0 rfl) ?_
        refine lv_iconst (v := 1) hx hb dX7_commit_19 (by decide) ?_
        obtain ⟨hy9, hp⟩ := hp
        refine cTop2 (r := o0) hy9.1 ?_
        obtain ⟨hy10, hp⟩ := hp
        refine cGov (va_runV (As := [.int 1]) (rest := []) ⟨hx, hb, hml, hown, hts⟩ (c_Y4_keepTextAs l G K ad S (o0.getD 0) (1 : Int32) _) (cwV 1 hts (wGV t_ (mw (.methodLink RX7 174 yX4_keepTextAs) (List.mem_of_getElem? (i := 7) rfl)) (mw (.instanceMethod yX4_keepTextAs) (List.mem_of_getElem? (i := 8) rfl)) (mw (.selects RX4 yX4_keepTextAs yX4_keepTextAs) (List.mem_of_getElem? (i := 9) rfl)) (mw (.initialized RX4) (List.mem_of_getElem? (i := 10) rfl)) j_Y4_keepTextAs) rfl rfl rfl (by decide +kernel) ⟨Nat.le_of_ble_eq_true rfl, Nat.le_of_ble_eq_true rfl⟩) (cPV hK hTE hP hD 3 rfl (at_3 hy9.2) ⟨hy9.2, hy10⟩) rfl rfl hl.1 rfl (lv_room (Nat.le_of_ble_eq_true rfl)) dX7_commit_20 ⟨Nat.le_of_ble_eq_true rfl, Nat.le_of_ble_eq_true rfl⟩) hP hD hS hA (fun u11 H locs hv hP hD hS => ?_)
        obtain ⟨hv, hz⟩ := hv
        have hZ := hZ.tr hz
        rw [← hv] at hE hp
        dsimp only at hE hp
        exact B_Y7_commit_23a u11 x1 o0 _ _ _ hE hp hZ hP hD hS (lv_sub hl [1, 2, 0] rfl)
  have B_M : ∀ (S : Cst) (H : Heap) (locs : List Loc) (ls_ : Array Slot), f_Y7_commit S x0 = X → p_Y7_commit S x0 → eK S0 S → va_P G vwCl (wsC K ad S) H → va_D A (wsC K ad S) → va_S A s.heap H locs → lv_has ls_ 3 [(0, .ref (ad x0))] → W p l e ({ frames := 3, cells := 0, slots := 0, locals := 64 } : Room) s m #[Value.ref (ad x0)] below meth c H locs 0 0 Q (F0 m 0 ls_ []) := by
    intro S H locs ls_ hE hp hZ hP hD hS hl
    unfold f_Y7_commit at hE
    unfold p_Y7_commit at hp
    refine lv_aload_n hx hb dX7_commit_0 rfl (lv_at hl 0 rfl) ?_
    obtain ⟨hy1, hp⟩ := hp
    refine cGoq (va_runV (As := []) (rest := []) ⟨hx, hb, hml, hown, hts⟩ (c_Y0_firstFreePlace l G K ad S x0 _) (cwV 0 hts (wGV t_ (mw (.methodLink RX7 167 yX0_firstFreePlace) (List.mem_of_getElem? (i := 0) rfl)) (mw (.instanceMethod yX0_firstFreePlace) (List.mem_of_getElem? (i := 1) rfl)) (mw (.selects RX0 yX0_firstFreePlace yX0_firstFreePlace) (List.mem_of_getElem? (i := 2) rfl)) (mw (.initialized RX0) (List.mem_of_getElem? (i := 3) rfl)) j_Y0_firstFreePlace) rfl rfl rfl (by decide +kernel) ⟨Nat.le_of_ble_eq_true rfl, Nat.le_of_ble_eq_true rfl⟩) (cPV hK hTE hP hD 0 rfl (at_0 (k_x0.e hZ)) ⟨(k_x0.e hZ), hy1⟩) rfl rfl hl.1 rfl (lv_room (Nat.le_of_ble_eq_true rfl)) dX7_commit_1 ⟨Nat.le_of_ble_eq_true rfl, Nat.le_of_ble_eq_true rfl⟩) hP hD hS hA (fun r3 u2 H locs hv hP hD hS => ?_)
    have h1 := congrArg Prod.fst hv
    have h2 := (congrArg Prod.snd hv).symm
    dsimp only at h1 h2
    subst h1
    subst h2
    refine cAstore_n (ad := ad) (r := (f_Y0_firstFreePlace S x0)) (i := 1) (lv' := [(1, va_re ad (f_Y0_firstFreePlace S x0)), (0, .ref (ad x0))]) hx hb dX7_commit_4 rfl hl (by decide) rfl (fun ls_ hl => ?_)
    refine lv_aload_n hx hb dX7_commit_5 rfl (lv_at hl 1 rfl) ?_
    obtain ⟨hy4, hp⟩ := hp
    refine cGoq (va_runV (As := []) (rest := []) ⟨hx, hb, hml, hown, hts⟩ (c_Y0_pullLowest l G K ad S x0 _) (cwV 0 hts (wGV t_ (mw (.methodLink RX7 171 yX0_pullLowest) (List.mem_of_getElem? (i := 4) rfl)) (mw (.instanceMethod yX0_pullLowest) (List.mem_of_getElem? (i := 5) rfl)) (mw (.selects RX0 yX0_pullLowest yX0_pullLowest) (List.mem_of_getElem? (i := 6) rfl)) (mw (.initialized RX0) (List.mem_of_getElem? (i := 3) rfl)) j_Y0_pullLowest) rfl rfl rfl (by decide +kernel) ⟨Nat.le_of_ble_eq_true rfl, Nat.le_of_ble_eq_true rfl⟩) (cPV hK hTE hP hD 0 rfl (at_0 (k_x0.e hZ)) ⟨(k_x0.e hZ), hy4⟩) rfl rfl hl.1 rfl (lv_room (Nat.le_of_ble_eq_true rfl)) dX7_commit_6 ⟨Nat.le_of_ble_eq_true rfl, Nat.le_of_ble_eq_true rfl⟩) hP hD hS hA (fun r6 u5 H locs hv hP hD hS => ?_)
    obtain ⟨hv, hz⟩ := hv
    have hZ := hZ.tr hz
    rw [← hv] at hE hp
    dsimp only at hE hp
    exact B_Y7_commit_9a u5 (f_Y0_firstFreePlace S x0) r6 _ _ _ hE hp hZ hP hD hS (lv_sub hl [1, 0] rfl)
  exact B_M S0 _ _ _ hX hp (eK.rf S0) hP hD hS hl
theorem gdX7_postpone_0 : ckS (List.drop 0 cX7_postpone.data.toList) 0 [(0, .aload_n 0, 1), (1, .invokevirtual 167, 3), (4, .astore_n 1, 1), (5, .aload_n 0, 1), (6, .invokevirtual 171, 3), (9, .astore_n 2, 1), (10, .aload_n 2, 1), (11, .ifnull 48, 3), (14, .aload_n 1, 1), (15, .ifnull 44, 3), (18, .aload_n 2, 1), (19, .getfield 182, 3), (22, .istore_n 3, 1), (23, .aload_n 2, 1), (24, .getfield 21, 3), (27, .istore 4, 2), (29, .aload_n 2, 1), (30, .aload_n 2, 1), (31, .getfield 37, 3), (34, .invokevirtual 174, 3), (37, .aload_n 2, 1), (38, .iload_n 3, 1), (39, .putfield 182, 3), (42, .aload_n 2, 1), (43, .iload 4, 2), (45, .putfield 21, 3), (48, .aload_n 2, 1), (49, .iconst 1, 1), (50, .putfield 154, 3), (53, .aload_n 1, 1), (54, .iconst 2, 1), (55, .aload_n 2, 1), (56, .invokevirtual 178, 3), (59, .return_, 1)] = true := by decide +kernel
theorem dX7_postpone_0 : decode cX7_postpone 0 = .ok (.aload_n 0, 1) := ckS_g gdX7_postpone_0 0 rfl
theorem dX7_postpone_1 : decode cX7_postpone 1 = .ok (.invokevirtual 167, 3) := ckS_g gdX7_postpone_0 1 rfl
theorem dX7_postpone_4 : decode cX7_postpone 4 = .ok (.astore_n 1, 1) := ckS_g gdX7_postpone_0 2 rfl
theorem dX7_postpone_5 : decode cX7_postpone 5 = .ok (.aload_n 0, 1) := ckS_g gdX7_postpone_0 3 rfl
theorem dX7_postpone_6 : decode cX7_postpone 6 = .ok (.invokevirtual 171, 3) := ckS_g gdX7_postpone_0 4 rfl
theorem dX7_postpone_9 : decode cX7_postpone 9 = .ok (.astore_n 2, 1) := ckS_g gdX7_postpone_0 5 rfl
theorem dX7_postpone_10 : decode cX7_postpone 10 = .ok (.aload_n 2, 1) := ckS_g gdX7_postpone_0 6 rfl
theorem dX7_postpone_11 : decode cX7_postpone 11 = .ok (.ifnull 48, 3) := ckS_g gdX7_postpone_0 7 rfl
theorem dX7_postpone_14 : decode cX7_postpone 14 = .ok (.aload_n 1, 1) := ckS_g gdX7_postpone_0 8 rfl
theorem dX7_postpone_15 : decode cX7_postpone 15 = .ok (.ifnull 44, 3) := ckS_g gdX7_postpone_0 9 rfl
theorem dX7_postpone_18 : decode cX7_postpone 18 = .ok (.aload_n 2, 1) := ckS_g gdX7_postpone_0 10 rfl
theorem dX7_postpone_19 : decode cX7_postpone 19 = .ok (.getfield 182, 3) := ckS_g gdX7_postpone_0 11 rfl
theorem dX7_postpone_22 : decode cX7_postpone 22 = .ok (.istore_n 3, 1) := ckS_g gdX7_postpone_0 12 rfl
theorem dX7_postpone_23 : decode cX7_postpone 23 = .ok (.aload_n 2, 1) := ckS_g gdX7_postpone_0 13 rfl
theorem dX7_postpone_24 : decode cX7_postpone 24 = .ok (.getfield 21, 3) := ckS_g gdX7_postpone_0 14 rfl
theorem dX7_postpone_27 : decode cX7_postpone 27 = .ok (.istore 4, 2) := ckS_g gdX7_postpone_0 15 rfl
theorem dX7_postpone_29 : decode cX7_postpone 29 = .ok (.aload_n 2, 1) := ckS_g gdX7_postpone_0 16 rfl
theorem dX7_postpone_30 : decode cX7_postpone 30 = .ok (.aload_n 2, 1) := ckS_g gdX7_postpone_0 17 rfl
theorem dX7_postpone_31 : decode cX7_postpone 31 = .ok (.getfield 37, 3) := ckS_g gdX7_postpone_0 18 rfl
theorem dX7_postpone_34 : decode cX7_postpone 34 = .ok (.invokevirtual 174, 3) := ckS_g gdX7_postpone_0 19 rfl
theorem dX7_postpone_37 : decode cX7_postpone 37 = .ok (.aload_n 2, 1) := ckS_g gdX7_postpone_0 20 rfl
theorem dX7_postpone_38 : decode cX7_postpone 38 = .ok (.iload_n 3, 1) := ckS_g gdX7_postpone_0 21 rfl
theorem dX7_postpone_39 : decode cX7_postpone 39 = .ok (.putfield 182, 3) := ckS_g gdX7_postpone_0 22 rfl
theorem dX7_postpone_42 : decode cX7_postpone 42 = .ok (.aload_n 2, 1) := ckS_g gdX7_postpone_0 23 rfl
theorem dX7_postpone_43 : decode cX7_postpone 43 = .ok (.iload 4, 2) := ckS_g gdX7_postpone_0 24 rfl
theorem dX7_postpone_45 : decode cX7_postpone 45 = .ok (.putfield 21, 3) := ckS_g gdX7_postpone_0 25 rfl
theorem dX7_postpone_48 : decode cX7_postpone 48 = .ok (.aload_n 2, 1) := ckS_g gdX7_postpone_0 26 rfl
theorem dX7_postpone_49 : decode cX7_postpone 49 = .ok (.iconst 1, 1) := ckS_g gdX7_postpone_0 27 rfl
theorem dX7_postpone_50 : decode cX7_postpone 50 = .ok (.putfield 154, 3) := ckS_g gdX7_postpone_0 28 rfl
theorem dX7_postpone_53 : decode cX7_postpone 53 = .ok (.aload_n 1, 1) := ckS_g gdX7_postpone_0 29 rfl
theorem dX7_postpone_54 : decode cX7_postpone 54 = .ok (.iconst 2, 1) := ckS_g gdX7_postpone_0 30 rfl
theorem dX7_postpone_55 : decode cX7_postpone 55 = .ok (.aload_n 2, 1) := ckS_g gdX7_postpone_0 31 rfl
theorem dX7_postpone_56 : decode cX7_postpone 56 = .ok (.invokevirtual 178, 3) := ckS_g gdX7_postpone_0 32 rfl
theorem dX7_postpone_59 : decode cX7_postpone 59 = .ok (.return_, 1) := ckS_g gdX7_postpone_0 33 rfl
set_option maxRecDepth 100000 in
theorem zc359 : wZ (.fieldLink RX7 182 "MotionFloor$Motion" "mover" "I") := ⟨wT3 (List.mem_of_getElem? (i := 21) (by decide +kernel)), Or.inl rfl⟩
set_option maxRecDepth 100000 in
theorem zc360 : wZ (.code yX7_postpone cX7_postpone 5 none) := ⟨wT3 (List.mem_of_getElem? (i := 230) rfl), Or.inl rfl⟩
def b_Y7_postpone_59 (S : Cst) (x0 : Nat) (x1 : Option Nat) (x2 : Option Nat) : Int32 × Cst := (0, S)
def q_Y7_postpone_59 (S : Cst) (x0 : Nat) (x1 : Option Nat) (x2 : Option Nat) : Prop := True
def b_Y7_postpone_37a (S : Cst) (x0 : Nat) (x1 : Option Nat) (x2 : Option Nat) (x3 : Int32) (x4 : Int32) : Int32 × Cst := (b_Y7_postpone_59 ((f_Y6_hold (siC (siC (siC S (x2.getD 0) 3 x3) (x2.getD 0) 4 x4) (x2.getD 0) 10 (1 : Int32)) (x1.getD 0) (2 : Int32) x2).2) x0 x1 x2)
def q_Y7_postpone_37a (S : Cst) (x0 : Nat) (x1 : Option Nat) (x2 : Option Nat) (x3 : Int32) (x4 : Int32) : Prop := (iR S x2 3) ∧ (iR (siC S (x2.getD 0) 3 x3) x2 3) ∧ (iR (siC (siC S (x2.getD 0) 3 x3) (x2.getD 0) 4 x4) x2 3) ∧ (iR (siC (siC (siC S (x2.getD 0) 3 x3) (x2.getD 0) 4 x4) (x2.getD 0) 10 (1 : Int32)) x1 5) ∧ (p_Y6_hold (siC (siC (siC S (x2.getD 0) 3 x3) (x2.getD 0) 4 x4) (x2.getD 0) 10 (1 : Int32)) (x1.getD 0) (2 : Int32) x2) ∧ (q_Y7_postpone_59 ((f_Y6_hold (siC (siC (siC S (x2.getD 0) 3 x3) (x2.getD 0) 4 x4) (x2.getD 0) 10 (1 : Int32)) (x1.getD 0) (2 : Int32) x2).2) x0 x1 x2)
def b_Y7_postpone_9a (S : Cst) (x0 : Nat) (x1 : Option Nat) (o0 : Option Nat) : Int32 × Cst := if o0 = none then (b_Y7_postpone_59 S x0 x1 o0) else if x1 = none then (b_Y7_postpone_59 S x0 x1 o0) else (b_Y7_postpone_37a ((f_Y4_keepTextAs S (o0.getD 0) (giC S (o0.getD 0) 2)).2) x0 x1 o0 (giC S (o0.getD 0) 3) (giC S (o0.getD 0) 4))
def q_Y7_postpone_9a (S : Cst) (x0 : Nat) (x1 : Option Nat) (o0 : Option Nat) : Prop := (if o0 = none then (q_Y7_postpone_59 S x0 x1 o0) else (if x1 = none then (q_Y7_postpone_59 S x0 x1 o0) else (iR S o0 3) ∧ (iR S o0 3) ∧ (iR S o0 3) ∧ (iR S o0 3) ∧ (p_Y4_keepTextAs S (o0.getD 0) (giC S (o0.getD 0) 2)) ∧ (q_Y7_postpone_37a ((f_Y4_keepTextAs S (o0.getD 0) (giC S (o0.getD 0) 2)).2) x0 x1 o0 (giC S (o0.getD 0) 3) (giC S (o0.getD 0) 4))))
def f_Y7_postpone (S : Cst) (x0 : Nat) : Int32 × Cst := (b_Y7_postpone_9a ((f_Y0_pullLowest S x0).2) x0 (f_Y0_firstFreePlace S x0) ((f_Y0_pullLowest S x0).1))
def p_Y7_postpone (S : Cst) (x0 : Nat) : Prop := (p_Y0_firstFreePlace S x0) ∧ (p_Y0_pullLowest S x0) ∧ (q_Y7_postpone_9a ((f_Y0_pullLowest S x0).2) x0 (f_Y0_firstFreePlace S x0) ((f_Y0_pullLowest S x0).1))
def e_Y7_postpone : List Cond := [.methodLink RX7 167 yX0_firstFreePlace, .instanceMethod yX0_firstFreePlace, .selects RX0 yX0_firstFreePlace yX0_firstFreePlace, .initialized RX0, .methodLink RX7 171 yX0_pullLowest, .instanceMethod yX0_pullLowest, .selects RX0 yX0_pullLowest yX0_pullLowest, .fieldLink RX7 182 "MotionFloor$Motion" "mover" "I", .fieldLink RX7 21 "MotionFloor$Motion" "seconder" "I", .fieldLink RX7 37 "MotionFloor$Motion" "kind" "I", .methodLink RX7 174 yX4_keepTextAs, .instanceMethod yX4_keepTextAs, .selects RX4 yX4_keepTextAs yX4_keepTextAs, .initialized RX4, .fieldLink RX7 154 "MotionFloor$Motion" "laid" "Z", .methodLink RX7 178 yX6_hold, .instanceMethod yX6_hold, .selects RX6 yX6_hold yX6_hold, .initialized RX6]
def v_Y7_postpone : List Cond := .code yX7_postpone cX7_postpone 5 none :: (e_Y7_postpone ++ (wsX40 ++ (v_Y0_firstFreePlace ++ (v_Y0_pullLowest ++ (v_Y4_keepTextAs ++ (v_Y6_hold ++ []))))))
theorem te_Y7_postpone : GoodIn lw_tbl e_Y7_postpone := wGc zc357 (wGc zc356 (wGc zc355 (wGc zc39 (wGc zc354 (wGc zc353 (wGc zc352 (wGc zc359 (wGc zc309 (wGc zc310 (wGc zc351 (wGc zc264 (wGc zc263 (wGc zc170 (wGc zc324 (wGc zc350 (wGc zc349 (wGc zc348 (wGc zc112 (wG0)))))))))))))))))))
theorem t_Y7_postpone : GoodIn lw_tbl v_Y7_postpone := wGc zc360 (wGa te_Y7_postpone (wGa zcX4 (wGa t_Y0_firstFreePlace (wGa t_Y0_pullLowest (wGa t_Y4_keepTextAs (wGa t_Y6_hold (wG0)))))))
set_option maxHeartbeats 4000000 in
set_option maxRecDepth 100000 in
theorem c_Y7_postpone (l : Launch) (G : va_G) (K : Nat → ClassId) (ad : Nat → Nat) (S0 : Cst) (x0 : Nat)  (sz : Nat) : Met l yX7_postpone v_Y7_postpone ({ frames := 3, cells := 0, slots := 0, locals := 64 }) (va_Pc [.ref (ad x0)] (cSt G K ad sz S0 (iK S0 x0 0 ∧ p_Y7_postpone S0 x0))) (va_Qv (fun u : Cst => (0, u) = f_Y7_postpone S0 x0 ∧ eK S0 u) (cBt G K ad (va_A (wsC K ad S0) sz)) (va_A (wsC K ad S0) sz)) 0 0 (va_A (wsC K ad S0) sz) := by
  refine Met.ofW (cc := cX7_postpone) (maxL := 5) (ret := none) (by decide) rfl ?_
  intro p e s m args below meth c s₁ B hml hv
  obtain ⟨rfl, ⟨hsz, hP, hK, hD0, hTE⟩, hp⟩ := hv
  obtain ⟨k_x0, hp⟩ := hp
  have hx := B.exec
  have hb := B.bytes
  have hr := B.returns
  have hts := atoms_spec (ws := v_Y7_postpone) B.pre
  have t_ := t_Y7_postpone
  have mw : ∀ w ∈ e_Y7_postpone, w ∈ v_Y7_postpone := fun w h => List.mem_cons_of_mem _ (List.mem_append_left _ h)
  have hw := fun w (h : w ∈ e_Y7_postpone) => hts w (mw w h)
  have iX4 : ∀ w ∈ wsX40, w ∈ v_Y7_postpone := fun w h => List.mem_cons_of_mem _ (List.mem_append_right _ (List.mem_append_left _ h))
  have j_Y0_firstFreePlace : ∀ w ∈ v_Y0_firstFreePlace, w ∈ v_Y7_postpone := fun w h => List.mem_cons_of_mem _ (List.mem_append_right _ (List.mem_append_right _ (List.mem_append_left _ h)))
  have j_Y0_pullLowest : ∀ w ∈ v_Y0_pullLowest, w ∈ v_Y7_postpone := fun w h => List.mem_cons_of_mem _ (List.mem_append_right _ (List.mem_append_right _ (List.mem_append_right _ (List.mem_append_left _ h))))
  have j_Y4_keepTextAs : ∀ w ∈ v_Y4_keepTextAs, w ∈ v_Y7_postpone := fun w h => List.mem_cons_of_mem _ (List.mem_append_right _ (List.mem_append_right _ (List.mem_append_right _ (List.mem_append_right _ (List.mem_append_left _ h)))))
  have j_Y6_hold : ∀ w ∈ v_Y6_hold, w ∈ v_Y7_postpone := fun w h => List.mem_cons_of_mem _ (List.mem_append_right _ (List.mem_append_right _ (List.mem_append_right _ (List.mem_append_right _ (List.mem_append_right _ (List.mem_append_left _ h))))))
  have hown : s.vm.findClass RX7 = some m.cls := findClass_of_methodNamed B.named
  have hlocks := B.notSynchronized
  subst hsz
  have hD := hD0.self (sz := s.heap.size)
  generalize hAe : va_A (wsC K ad S0) s.heap.size = A at hD ⊢
  have hA : ∀ q : Nat, s.heap.size ≤ q → A q := fun q h => by rw [← hAe]; exact Or.inr h
  have hS : va_S A s.heap s.heap [] := va_S.rf
  have hl : lv_has (lg_sl ([.ref (ad x0)]) ++ List.replicate (5 - (lg_sl ([.ref (ad x0)])).length) Slot.unset).toArray 5 [(0, .ref (ad x0))] := by
    exact lv_entry ([.ref (ad x0)]) (n := 5) (Nat.le_of_ble_eq_true rfl)
  rw [lg_entry_eq]
  generalize (lg_sl ([.ref (ad x0)]) ++ List.replicate (5 - (lg_sl ([.ref (ad x0)])).length) Slot.unset).toArray = ls_ at hl ⊢
  refine wGen (fun Q hQ => ?_)
  obtain ⟨X, hX⟩ : ∃ X, f_Y7_postpone S0 x0 = X := ⟨_, rfl⟩
  have B_Y7_postpone_59 : ∀ (S : Cst) (x1 : Option Nat) (x2 : Option Nat) (H : Heap) (locs : List Loc) (ls_ : Array Slot), b_Y7_postpone_59 S x0 x1 x2 = X → q_Y7_postpone_59 S x0 x1 x2 → eK S0 S → va_P G vwCl (wsC K ad S) H → va_D A (wsC K ad S) → va_S A s.heap H locs → lv_has ls_ 5 [(0, .ref (ad x0)), (1, va_re ad x1), (2, va_re ad x2)] → W p l e ({ frames := 3, cells := 0, slots := 0, locals := 64 } : Room) s m #[Value.ref (ad x0)] below meth c H locs 0 0 Q (F0 m 59 ls_ []) := by
    intro S x1 x2 H locs ls_ hE hp hZ hP hD hS hl
    unfold b_Y7_postpone_59 at hE
    unfold q_Y7_postpone_59 at hp
    subst hQ
    exact W.vret hx hb hr (fun t ht hW => ⟨⟨S, rfl, ⟨hE.trans hX.symm, hZ⟩, by rw [ht]; exact hP, hD⟩, hS.F ht⟩) hS.2.2 dX7_postpone_59
  have B_Y7_postpone_37a : ∀ (S : Cst) (x1 : Option Nat) (x2 : Option Nat) (x3 : Int32) (x4 : Int32) (H : Heap) (locs : List Loc) (ls_ : Array Slot), b_Y7_postpone_37a S x0 x1 x2 x3 x4 = X → q_Y7_postpone_37a S x0 x1 x2 x3 x4 → eK S0 S → va_P G vwCl (wsC K ad S) H → va_D A (wsC K ad S) → va_S A s.heap H locs → lv_has ls_ 5 [(0, .ref (ad x0)), (1, va_re ad x1), (2, va_re ad x2), (3, .int x3), (4, .int x4)] → W p l e ({ frames := 3, cells := 0, slots := 0, locals := 64 } : Room) s m #[Value.ref (ad x0)] below meth c H locs 0 0 Q (F0 m 37 ls_ []) := by
    intro S x1 x2 x3 x4 H locs ls_ hE hp hZ hP hD hS hl
    unfold b_Y7_postpone_37a at hE
    unfold q_Y7_postpone_37a at hp
    refine cAload_n (ad := ad) (r := x2) hx hb dX7_postpone_37 rfl (lv_at hl 2 rfl) ?_
    refine lv_iload_n hx hb dX7_postpone_38 rfl (lv_at hl 3 rfl) ?_
    obtain ⟨hy16, hp⟩ := hp
    refine cTop2 (r := x2) hy16.1 ?_
    refine va_put (D := G) (ci := 3) (v := .int x3) (ty := .int) (C := RX4) (T := TX4) (N := 16) hx hb hts iX4 tyX4 tyX4_ok nmX4 hown hK hP hD hS (x2.getD 0) (at_3 hy16.2) rfl 3 (by decide) (hw (.fieldLink RX7 182 "MotionFloor$Motion" "mover" "I") (List.mem_of_getElem? (i := 7) rfl)) (fun _ h9 => h9) rfl (by decide +kernel) rfl rfl (Nat.le_of_ble_eq_true rfl) dX7_postpone_39 (fun H locs hP hD hS => ?_)
    rw [st_3_3 hy16.2] at hP hD
    have hZ := hZ.tr (eK.si S (x2.getD 0) 3 x3)
    refine cAload_n (ad := ad) (r := x2) hx hb dX7_postpone_42 rfl (lv_at hl 2 rfl) ?_
    refine lv_iload hx hb dX7_postpone_43 (lv_at hl 4 rfl) ?_
    obtain ⟨hy17, hp⟩ := hp
    refine cTop2 (r := x2) hy17.1 ?_
    refine va_put (D := G) (ci := 3) (v := .int x4) (ty := .int) (C := RX4) (T := TX4) (N := 16) hx hb hts iX4 tyX4 tyX4_ok nmX4 hown hK hP hD hS (x2.getD 0) (at_3 hy17.2) rfl 4 (by decide) (hw (.fieldLink RX7 21 "MotionFloor$Motion" "seconder" "I") (List.mem_of_getElem? (i := 8) rfl)) (fun _ h9 => h9) rfl (by decide +kernel) rfl rfl (Nat.le_of_ble_eq_true rfl) dX7_postpone_45 (fun H locs hP hD hS => ?_)
    rw [st_3_4 hy17.2] at hP hD
    have hZ := hZ.tr (eK.si (siC S (x2.getD 0) 3 x3) (x2.getD 0) 4 x4)
    refine cAload_n (ad := ad) (r := x2) hx hb dX7_postpone_48 rfl (lv_at hl 2 rfl) ?_
    refine lv_iconst (v := 1) hx hb dX7_postpone_49 (by decide) ?_
    obtain ⟨hy18, hp⟩ := hp
    refine cTop2 (r := x2) hy18.1 ?_
    refine va_put (D := G) (ci := 3) (v := .int 1) (ty := .boolean) (C := RX4) (T := TX4) (N := 16) hx hb hts iX4 tyX4 tyX4_ok nmX4 hown hK hP hD hS (x2.getD 0) (at_3 hy18.2) rfl 10 (by decide) (hw (.fieldLink RX7 154 "MotionFloor$Motion" "laid" "Z") (List.mem_of_getElem? (i := 14) rfl)) (fun _ h9 => h9) rfl (by decide +kernel) rfl rfl (Nat.le_of_ble_eq_true rfl) dX7_postpone_50 (fun H locs hP hD hS => ?_)
    rw [st_3_10 hy18.2] at hP hD
    have hZ := hZ.tr (eK.si (siC (siC S (x2.getD 0) 3 x3) (x2.getD 0) 4 x4) (x2.getD 0) 10 (1 : Int32))
    refine cAload_n (ad := ad) (r := x1) hx hb dX7_postpone_53 rfl (lv_at hl 1 rfl) ?_
    refine lv_iconst (v := 2) hx hb dX7_postpone_54 (by decide) ?_
    refine cAload_n (ad := ad) (r := x2) hx hb dX7_postpone_55 rfl (lv_at hl 2 rfl) ?_
    obtain ⟨hy19, hp⟩ := hp
    refine cTop3 (r := x1) hy19.1 ?_
    obtain ⟨hy20, hp⟩ := hp
    refine cGov (va_runV (As := [.int 2, va_re ad x2]) (rest := []) ⟨hx, hb, hml, hown, hts⟩ (c_Y6_hold l G K ad (siC (siC (siC S (x2.getD 0) 3 x3) (x2.getD 0) 4 x4) (x2.getD 0) 10 (1 : Int32)) (x1.getD 0) (2 : Int32) x2 _) (cwV 2 hts (wGV t_ (mw (.methodLink RX7 178 yX6_hold) (List.mem_of_getElem? (i := 15) rfl)) (mw (.instanceMethod yX6_hold) (List.mem_of_getElem? (i := 16) rfl)) (mw (.selects RX6 yX6_hold yX6_hold) (List.mem_of_getElem? (i := 17) rfl)) (mw (.initialized RX6) (List.mem_of_getElem? (i := 18) rfl)) j_Y6_hold) rfl rfl rfl (by decide +kernel) ⟨Nat.le_of_ble_eq_true rfl, Nat.le_of_ble_eq_true rfl⟩) (cPV hK hTE hP hD 5 rfl (at_5 hy19.2) ⟨hy19.2, hy20⟩) rfl rfl hl.1 rfl (lv_room (Nat.le_of_ble_eq_true rfl)) dX7_postpone_56 ⟨Nat.le_of_ble_eq_true rfl, Nat.le_of_ble_eq_true rfl⟩) hP hD hS hA (fun u21 H locs hv hP hD hS => ?_)
    obtain ⟨hv, hz⟩ := hv
    have hZ := hZ.tr hz
    rw [← hv] at hE hp
    dsimp only at hE hp
    exact B_Y7_postpone_59 u21 x1 x2 _ _ _ hE hp hZ hP hD hS (lv_sub hl [0, 1, 2] rfl)
  have B_Y7_postpone_9a : ∀ (S : Cst) (x1 : Option Nat) (o0 : Option Nat) (H : Heap) (locs : List Loc) (ls_ : Array Slot), b_Y7_postpone_9a S x0 x1 o0 = X → q_Y7_postpone_9a S x0 x1 o0 → eK S0 S → va_P G vwCl (wsC K ad S) H → va_D A (wsC K ad S) → va_S A s.heap H locs → lv_has ls_ 5 [(0, .ref (ad x0)), (1, va_re ad x1)] → W p l e ({ frames := 3, cells := 0, slots := 0, locals := 64 } : Room) s m #[Value.ref (ad x0)] below meth c H locs 0 0 Q (F0 m 9 ls_ [va_re ad o0]) := by
    intro S x1 o0 H locs ls_ hE hp hZ hP hD hS hl
    unfold b_Y7_postpone_9a at hE
    unfold q_Y7_postpone_9a at hp
    refine cAstore_n (ad := ad) (r := o0) (i := 2) (lv' := [(2, va_re ad o0), (0, .ref (ad x0)), (1, va_re ad x1)]) hx hb dX7_postpone_9 rfl hl (by decide) (by simp [List.filter, re_cat]) (fun ls_ hl => ?_)
    refine cAload_n (ad := ad) (r := o0) hx hb dX7_postpone_10 rfl (lv_at hl 0 rfl) ?_
    refine cIfnull (ad := ad) (r := o0) (tgt := 59) hx hb dX7_postpone_11 (by decide) (fun c7 => ?_) (fun c7 => ?_)
    · rw [if_pos c7] at hE hp
      exact B_Y7_postpone_59 S x1 o0 _ _ _ hE hp hZ hP hD hS (lv_sub hl [1, 2, 0] rfl)
    · rw [if_neg c7] at hE hp
      refine cAload_n (ad := ad) (r := x1) hx hb dX7_postpone_14 rfl (lv_at hl 2 rfl) ?_
      refine cIfnull (ad := ad) (r := x1) (tgt := 59) hx hb dX7_postpone_15 (by decide) (fun c8 => ?_) (fun c8 => ?_)
      · rw [if_pos c8] at hE hp
        exact B_Y7_postpone_59 S x1 o0 _ _ _ hE hp hZ hP hD hS (lv_sub hl [1, 2, 0] rfl)
      · rw [if_neg c8] at hE hp
        refine cAload_n (ad := ad) (r := o0) hx hb dX7_postpone_18 rfl (lv_at hl 0 rfl) ?_
        obtain ⟨hy9, hp⟩ := hp
        refine cTop (r := o0) hy9.1 ?_
        refine va_get (D := G) (ci := 3) (v := .int (giC S (o0.getD 0) 3)) (C := RX4) (T := TX4) (N := 16) hx hb hts iX4 hown hK hP (o0.getD 0) (at_3 hy9.2) rfl 3 (by decide) (hw (.fieldLink RX7 182 "MotionFloor$Motion" "mover" "I") (List.mem_of_getElem? (i := 7) rfl)) (fun _ h9 => h9) rfl dX7_postpone_19 ?_
        refine lv_istore_n (i := 3) (lv' := [(3, .int (giC S (o0.getD 0) 3)), (2, va_re ad o0), (0, .ref (ad x0)), (1, va_re ad x1)]) hx hb dX7_postpone_22 rfl hl (by decide) (by simp [List.filter, re_cat]) (fun ls_ hl => ?_)
        refine cAload_n (ad := ad) (r := o0) hx hb dX7_postpone_23 rfl (lv_at hl 1 rfl) ?_
        obtain ⟨hy10, hp⟩ := hp
        refine cTop (r := o0) hy10.1 ?_
        refine va_get (D := G) (ci := 3) (v := .int (giC S (o0.getD 0) 4)) (C := RX4) (T := TX4) (N := 16) hx hb hts iX4 hown hK hP (o0.getD 0) (at_3 hy10.2) rfl 4 (by decide) (hw (.fieldLink RX7 21 "MotionFloor$Motion" "seconder" "I") (List.mem_of_getElem? (i := 8) rfl)) (fun _ h9 => h9) rfl dX7_postpone_24 ?_
        refine lv_istore (i := 4) (lv' := [(4, .int (giC S (o0.getD 0) 4)), (3, .int (giC S (o0.getD 0) 3)), (2, va_re ad o0), (0, .ref (ad x0)), (1, va_re ad x1)]) hx hb dX7_postpone_27 hl (by decide) rfl (fun ls_ hl => ?_)
        refine cAload_n (ad := ad) (r := o0) hx hb dX7_postpone_29 rfl (lv_at hl 2 rfl) ?_
        refine cAload_n (ad := ad) (r := o0) hx hb dX7_postpone_30 rfl (lv_at hl 2 rfl) ?_
        obtain ⟨hy11, hp⟩ := hp
        refine cTop (r := o0) hy11.1 ?_
        refine va_get (D := G) (ci := 3) (v := .int (giC S (o0.getD 0) 2)) (C := RX4) (T := TX4) (N := 16) hx hb hts iX4 hown hK hP (o0.getD 0) (at_3 hy11.2) rfl 2 (by decide) (hw (.fieldLink RX7 37 "MotionFloor$Motion" "kind" "I") (List.mem_of_getElem? (i := 9) rfl)) (fun _ h9 => h9) rfl dX7_postpone_31 ?_
        obtain ⟨hy12, hp⟩ := hp
        refine cTop2 (r := o0) hy12.1 ?_
        obtain ⟨hy13, hp⟩ := hp
        refine cGov (va_runV (As := [.int (giC S (o0.getD 0) 2)]) (rest := []) ⟨hx, hb, hml, hown, hts⟩ (c_Y4_keepTextAs l G K ad S (o0.getD 0) (giC S (o0.getD 0) 2) _) (cwV 1 hts (wGV t_ (mw (.methodLink RX7 174 yX4_keepTextAs) (List.mem_of_getElem? (i := 10) rfl)) (mw (.instanceMethod yX4_keepTextAs) (List.mem_of_getElem? (i := 11) rfl)) (mw (.selects RX4 yX4_keepTextAs yX4_keepTextAs) (List.mem_of_getElem? (i := 12) rfl)) (mw (.initialized RX4) (List.mem_of_getElem? (i := 13) rfl)) j_Y4_keepTextAs) rfl rfl rfl (by decide +kernel) ⟨Nat.le_of_ble_eq_true rfl, Nat.le_of_ble_eq_true rfl⟩) (cPV hK hTE hP hD 3 rfl (at_3 hy12.2) ⟨hy12.2, hy13⟩) rfl rfl hl.1 rfl (lv_room (Nat.le_of_ble_eq_true rfl)) dX7_postpone_34 ⟨Nat.le_of_ble_eq_true rfl, Nat.le_of_ble_eq_true rfl⟩) hP hD hS hA (fun u14 H locs hv hP hD hS => ?_)
        obtain ⟨hv, hz⟩ := hv
        have hZ := hZ.tr hz
        rw [← hv] at hE hp
        dsimp only at hE hp
        exact B_Y7_postpone_37a u14 x1 o0 (giC S (o0.getD 0) 3) (giC S (o0.getD 0) 4) _ _ _ hE hp hZ hP hD hS (lv_sub hl [3, 4, 2, 1, 0] rfl)
  have B_M : ∀ (S : Cst) (H : Heap) (locs : List Loc) (ls_ : Array Slot), f_Y7_postpone S x0 = X → p_Y7_postpone S x0 → eK S0 S → va_P G vwCl (wsC K ad S) H → va_D A (wsC K ad S) → va_S A s.heap H locs → lv_has ls_ 5 [(0, .ref (ad x0))] → W p l e ({ frames := 3, cells := 0, slots := 0, locals := 64 } : Room) s m #[Value.ref (ad x0)] below meth c H locs 0 0 Q (F0 m 0 ls_ []) := by
    intro S H locs ls_ hE hp hZ hP hD hS hl
    unfold f_Y7_postpone at hE
    unfold p_Y7_postpone at hp
    refine lv_aload_n hx hb dX7_postpone_0 rfl (lv_at hl 0 rfl) ?_
    obtain ⟨hy1, hp⟩ := hp
    refine cGoq (va_runV (As := []) (rest := []) ⟨hx, hb, hml, hown, hts⟩ (c_Y0_firstFreePlace l G K ad S x0 _) (cwV 0 hts (wGV t_ (mw (.methodLink RX7 167 yX0_firstFreePlace) (List.mem_of_getElem? (i := 0) rfl)) (mw (.instanceMethod yX0_firstFreePlace) (List.mem_of_getElem? (i := 1) rfl)) (mw (.selects RX0 yX0_firstFreePlace yX0_firstFreePlace) (List.mem_of_getElem? (i := 2) rfl)) (mw (.initialized RX0) (List.mem_of_getElem? (i := 3) rfl)) j_Y0_firstFreePlace) rfl rfl rfl (by decide +kernel) ⟨Nat.le_of_ble_eq_true rfl, Nat.le_of_ble_eq_true rfl⟩) (cPV hK hTE hP hD 0 rfl (at_0 (k_x0.e hZ)) ⟨(k_x0.e hZ), hy1⟩) rfl rfl hl.1 rfl (lv_room (Nat.le_of_ble_eq_true rfl)) dX7_postpone_1 ⟨Nat.le_of_ble_eq_true rfl, Nat.le_of_ble_eq_true rfl⟩) hP hD hS hA (fun r3 u2 H locs hv hP hD hS => ?_)
    have h1 := congrArg Prod.fst hv
    have h2 := (congrArg Prod.snd hv).symm
    dsimp only at h1 h2
    subst h1
    subst h2
    refine cAstore_n (ad := ad) (r := (f_Y0_firstFreePlace S x0)) (i := 1) (lv' := [(1, va_re ad (f_Y0_firstFreePlace S x0)), (0, .ref (ad x0))]) hx hb dX7_postpone_4 rfl hl (by decide) rfl (fun ls_ hl => ?_)
    refine lv_aload_n hx hb dX7_postpone_5 rfl (lv_at hl 1 rfl) ?_
    obtain ⟨hy4, hp⟩ := hp
    refine cGoq (va_runV (As := []) (rest := []) ⟨hx, hb, hml, hown, hts⟩ (c_Y0_pullLowest l G K ad S x0 _) (cwV 0 hts (wGV t_ (mw (.methodLink RX7 171 yX0_pullLowest) (List.mem_of_getElem? (i := 4) rfl)) (mw (.instanceMethod yX0_pullLowest) (List.mem_of_getElem? (i := 5) rfl)) (mw (.selects RX0 yX0_pullLowest yX0_pullLowest) (List.mem_of_getElem? (i := 6) rfl)) (mw (.initialized RX0) (List.mem_of_getElem? (i := 3) rfl)) j_Y0_pullLowest) rfl rfl rfl (by decide +kernel) ⟨Nat.le_of_ble_eq_true rfl, Nat.le_of_ble_eq_true rfl⟩) (cPV hK hTE hP hD 0 rfl (at_0 (k_x0.e hZ)) ⟨(k_x0.e hZ), hy4⟩) rfl rfl hl.1 rfl (lv_room (Nat.le_of_ble_eq_true rfl)) dX7_postpone_6 ⟨Nat.le_of_ble_eq_true rfl, Nat.le_of_ble_eq_true rfl⟩) hP hD hS hA (fun r6 u5 H locs hv hP hD hS => ?_)
    obtain ⟨hv, hz⟩ := hv
    have hZ := hZ.tr hz
    rw [← hv] at hE hp
    dsimp only at hE hp
    exact B_Y7_postpone_9a u5 (f_Y0_firstFreePlace S x0) r6 _ _ _ hE hp hZ hP hD hS (lv_sub hl [1, 0] rfl)
  exact B_M S0 _ _ _ hX hp (eK.rf S0) hP hD hS hl
theorem gdX7_table_0 : ckS (List.drop 0 cX7_table.data.toList) 0 [(0, .aload_n 0, 1), (1, .invokevirtual 167, 3), (4, .astore_n 1, 1), (5, .aload_n 0, 1), (6, .aload_n 0, 1), (7, .getfield 58, 3), (10, .invokevirtual 62, 3), (13, .aload_n 1, 1), (14, .ifnull 19, 3), (17, .aload_n 1, 1), (18, .iconst 3, 1), (19, .putfield 185, 3), (22, .aload_n 0, 1), (23, .getfield 58, 3), (26, .aload_n 1, 1), (27, .getfield 188, 3), (30, .invokevirtual 191, 3), (33, .return_, 1)] = true := by decide +kernel
theorem dX7_table_0 : decode cX7_table 0 = .ok (.aload_n 0, 1) := ckS_g gdX7_table_0 0 rfl
theorem dX7_table_1 : decode cX7_table 1 = .ok (.invokevirtual 167, 3) := ckS_g gdX7_table_0 1 rfl
theorem dX7_table_4 : decode cX7_table 4 = .ok (.astore_n 1, 1) := ckS_g gdX7_table_0 2 rfl
theorem dX7_table_5 : decode cX7_table 5 = .ok (.aload_n 0, 1) := ckS_g gdX7_table_0 3 rfl
theorem dX7_table_6 : decode cX7_table 6 = .ok (.aload_n 0, 1) := ckS_g gdX7_table_0 4 rfl
theorem dX7_table_7 : decode cX7_table 7 = .ok (.getfield 58, 3) := ckS_g gdX7_table_0 5 rfl
theorem dX7_table_10 : decode cX7_table 10 = .ok (.invokevirtual 62, 3) := ckS_g gdX7_table_0 6 rfl
theorem dX7_table_13 : decode cX7_table 13 = .ok (.aload_n 1, 1) := ckS_g gdX7_table_0 7 rfl
theorem dX7_table_14 : decode cX7_table 14 = .ok (.ifnull 19, 3) := ckS_g gdX7_table_0 8 rfl
theorem dX7_table_17 : decode cX7_table 17 = .ok (.aload_n 1, 1) := ckS_g gdX7_table_0 9 rfl
theorem dX7_table_18 : decode cX7_table 18 = .ok (.iconst 3, 1) := ckS_g gdX7_table_0 10 rfl
theorem dX7_table_19 : decode cX7_table 19 = .ok (.putfield 185, 3) := ckS_g gdX7_table_0 11 rfl
theorem dX7_table_22 : decode cX7_table 22 = .ok (.aload_n 0, 1) := ckS_g gdX7_table_0 12 rfl
theorem dX7_table_23 : decode cX7_table 23 = .ok (.getfield 58, 3) := ckS_g gdX7_table_0 13 rfl
theorem dX7_table_26 : decode cX7_table 26 = .ok (.aload_n 1, 1) := ckS_g gdX7_table_0 14 rfl
theorem dX7_table_27 : decode cX7_table 27 = .ok (.getfield 188, 3) := ckS_g gdX7_table_0 15 rfl
theorem dX7_table_30 : decode cX7_table 30 = .ok (.invokevirtual 191, 3) := ckS_g gdX7_table_0 16 rfl
theorem dX7_table_33 : decode cX7_table 33 = .ok (.return_, 1) := ckS_g gdX7_table_0 17 rfl
set_option maxRecDepth 100000 in
theorem zc361 : wZ (.methodLink RX7 191 yX5_pourInto) := ⟨wT3 (List.mem_of_getElem? (i := 235) (by decide +kernel)), Or.inl rfl⟩
set_option maxRecDepth 100000 in
theorem zc362 : wZ (.fieldLink RX7 188 "MotionFloor$Place" "pile" "LMotionFloor$Pile;") := ⟨wT1 (List.mem_of_getElem? (i := 113) (by decide +kernel)), Or.inl rfl⟩
set_option maxRecDepth 100000 in
theorem zc363 : wZ (.fieldLink RX7 185 "MotionFloor$Place" "sort" "I") := ⟨wT1 (List.mem_of_getElem? (i := 109) (by decide +kernel)), Or.inl rfl⟩
set_option maxRecDepth 100000 in
theorem zc364 : wZ (.methodLink RX7 62 yX0_dropTop) := ⟨wT3 (List.mem_of_getElem? (i := 234) (by decide +kernel)), Or.inl rfl⟩
set_option maxRecDepth 100000 in
theorem zc365 : wZ (.code yX7_table cX7_table 2 none) := ⟨wT3 (List.mem_of_getElem? (i := 233) rfl), Or.inl rfl⟩
def b_Y7_table_33 (S : Cst) (x0 : Nat) (x1 : Option Nat) : Int32 × Cst := (0, S)
def q_Y7_table_33 (S : Cst) (x0 : Nat) (x1 : Option Nat) : Prop := True
def b_Y7_table_13a (S : Cst) (x0 : Nat) (x1 : Option Nat) : Int32 × Cst := if x1 = none then (b_Y7_table_33 S x0 x1) else (b_Y7_table_33 ((f_Y5_pourInto (siC S (x1.getD 0) 0 (3 : Int32)) ((grC (siC S (x1.getD 0) 0 (3 : Int32)) x0 1).getD 0) ((grC (siC S (x1.getD 0) 0 (3 : Int32)) (x1.getD 0) 1).getD 0)).2) x0 x1)
def q_Y7_table_13a (S : Cst) (x0 : Nat) (x1 : Option Nat) : Prop := (if x1 = none then (q_Y7_table_33 S x0 x1) else (iR S x1 5) ∧ (iR (siC S (x1.getD 0) 0 (3 : Int32)) x1 5) ∧ (iR (siC S (x1.getD 0) 0 (3 : Int32)) (grC (siC S (x1.getD 0) 0 (3 : Int32)) x0 1) 4) ∧ (iR (siC S (x1.getD 0) 0 (3 : Int32)) (grC (siC S (x1.getD 0) 0 (3 : Int32)) (x1.getD 0) 1) 4) ∧ (p_Y5_pourInto (siC S (x1.getD 0) 0 (3 : Int32)) ((grC (siC S (x1.getD 0) 0 (3 : Int32)) x0 1).getD 0) ((grC (siC S (x1.getD 0) 0 (3 : Int32)) (x1.getD 0) 1).getD 0)) ∧ (q_Y7_table_33 ((f_Y5_pourInto (siC S (x1.getD 0) 0 (3 : Int32)) ((grC (siC S (x1.getD 0) 0 (3 : Int32)) x0 1).getD 0) ((grC (siC S (x1.getD 0) 0 (3 : Int32)) (x1.getD 0) 1).getD 0)).2) x0 x1))
def f_Y7_table (S : Cst) (x0 : Nat) : Int32 × Cst := (b_Y7_table_13a ((f_Y0_dropTop S x0 ((grC S x0 1).getD 0)).2) x0 (f_Y0_firstFreePlace S x0))
def p_Y7_table (S : Cst) (x0 : Nat) : Prop := (p_Y0_firstFreePlace S x0) ∧ (iR S (grC S x0 1) 4) ∧ (p_Y0_dropTop S x0 ((grC S x0 1).getD 0)) ∧ (q_Y7_table_13a ((f_Y0_dropTop S x0 ((grC S x0 1).getD 0)).2) x0 (f_Y0_firstFreePlace S x0))
def e_Y7_table : List Cond := [.methodLink RX7 167 yX0_firstFreePlace, .instanceMethod yX0_firstFreePlace, .selects RX0 yX0_firstFreePlace yX0_firstFreePlace, .initialized RX0, .fieldLink RX7 58 "MotionFloor$Assembly" "pending" "LMotionFloor$Pile;", .methodLink RX7 62 yX0_dropTop, .instanceMethod yX0_dropTop, .selects RX0 yX0_dropTop yX0_dropTop, .fieldLink RX7 185 "MotionFloor$Place" "sort" "I", .fieldLink RX7 188 "MotionFloor$Place" "pile" "LMotionFloor$Pile;", .methodLink RX7 191 yX5_pourInto, .instanceMethod yX5_pourInto, .selects RX5 yX5_pourInto yX5_pourInto, .initialized RX5]
def v_Y7_table : List Cond := .code yX7_table cX7_table 2 none :: (e_Y7_table ++ (wsX00 ++ (wsX60 ++ (v_Y0_firstFreePlace ++ (v_Y0_dropTop ++ (v_Y5_pourInto ++ []))))))
theorem te_Y7_table : GoodIn lw_tbl e_Y7_table := wGc zc357 (wGc zc356 (wGc zc355 (wGc zc39 (wGc zc346 (wGc zc364 (wGc zc41 (wGc zc40 (wGc zc363 (wGc zc362 (wGc zc361 (wGc zc163 (wGc zc162 (wGc zc34 (wG0))))))))))))))
theorem t_Y7_table : GoodIn lw_tbl v_Y7_table := wGc zc365 (wGa te_Y7_table (wGa zcX0 (wGa zcX6 (wGa t_Y0_firstFreePlace (wGa t_Y0_dropTop (wGa t_Y5_pourInto (wG0)))))))
set_option maxHeartbeats 4000000 in
set_option maxRecDepth 100000 in
theorem c_Y7_table (l : Launch) (G : va_G) (K : Nat → ClassId) (ad : Nat → Nat) (S0 : Cst) (x0 : Nat)  (sz : Nat) : Met l yX7_table v_Y7_table ({ frames := 2, cells := 0, slots := 0, locals := 43 }) (va_Pc [.ref (ad x0)] (cSt G K ad sz S0 (iK S0 x0 0 ∧ p_Y7_table S0 x0))) (va_Qv (fun u : Cst => (0, u) = f_Y7_table S0 x0 ∧ eK S0 u) (cBt G K ad (va_A (wsC K ad S0) sz)) (va_A (wsC K ad S0) sz)) 0 0 (va_A (wsC K ad S0) sz) := by
  refine Met.ofW (cc := cX7_table) (maxL := 2) (ret := none) (by decide) rfl ?_
  intro p e s m args below meth c s₁ B hml hv
  obtain ⟨rfl, ⟨hsz, hP, hK, hD0, hTE⟩, hp⟩ := hv
  obtain ⟨k_x0, hp⟩ := hp
  have hx := B.exec
  have hb := B.bytes
  have hr := B.returns
  have hts := atoms_spec (ws := v_Y7_table) B.pre
  have t_ := t_Y7_table
  have mw : ∀ w ∈ e_Y7_table, w ∈ v_Y7_table := fun w h => List.mem_cons_of_mem _ (List.mem_append_left _ h)
  have hw := fun w (h : w ∈ e_Y7_table) => hts w (mw w h)
  have iX0 : ∀ w ∈ wsX00, w ∈ v_Y7_table := fun w h => List.mem_cons_of_mem _ (List.mem_append_right _ (List.mem_append_left _ h))
  have iX6 : ∀ w ∈ wsX60, w ∈ v_Y7_table := fun w h => List.mem_cons_of_mem _ (List.mem_append_right _ (List.mem_append_right _ (List.mem_append_left _ h)))
  have j_Y0_firstFreePlace : ∀ w ∈ v_Y0_firstFreePlace, w ∈ v_Y7_table := fun w h => List.mem_cons_of_mem _ (List.mem_append_right _ (List.mem_append_right _ (List.mem_append_right _ (List.mem_append_left _ h))))
  have j_Y0_dropTop : ∀ w ∈ v_Y0_dropTop, w ∈ v_Y7_table := fun w h => List.mem_cons_of_mem _ (List.mem_append_right _ (List.mem_append_right _ (List.mem_append_right _ (List.mem_append_right _ (List.mem_append_left _ h)))))
  have j_Y5_pourInto : ∀ w ∈ v_Y5_pourInto, w ∈ v_Y7_table := fun w h => List.mem_cons_of_mem _ (List.mem_append_right _ (List.mem_append_right _ (List.mem_append_right _ (List.mem_append_right _ (List.mem_append_right _ (List.mem_append_left _ h))))))
  have hown : s.vm.findClass RX7 = some m.cls := findClass_of_methodNamed B.named
  have hlocks := B.notSynchronized
  subst hsz
  have hD := hD0.self (sz := s.heap.size)
  generalize hAe : va_A (wsC K ad S0) s.heap.size = A at hD ⊢
  have hA : ∀ q : Nat, s.heap.size ≤ q → A q := fun q h => by rw [← hAe]; exact Or.inr h
  have hS : va_S A s.heap s.heap [] := va_S.rf
  have hl : lv_has (lg_sl ([.ref (ad x0)]) ++ List.replicate (2 - (lg_sl ([.ref (ad x0)])).length) Slot.unset).toArray 2 [(0, .ref (ad x0))] := by
    exact lv_entry ([.ref (ad x0)]) (n := 2) (Nat.le_of_ble_eq_true rfl)
  rw [lg_entry_eq]
  generalize (lg_sl ([.ref (ad x0)]) ++ List.replicate (2 - (lg_sl ([.ref (ad x0)])).length) Slot.unset).toArray = ls_ at hl ⊢
  refine wGen (fun Q hQ => ?_)
  obtain ⟨X, hX⟩ : ∃ X, f_Y7_table S0 x0 = X := ⟨_, rfl⟩
  have B_Y7_table_33 : ∀ (S : Cst) (x1 : Option Nat) (H : Heap) (locs : List Loc) (ls_ : Array Slot), b_Y7_table_33 S x0 x1 = X → q_Y7_table_33 S x0 x1 → eK S0 S → va_P G vwCl (wsC K ad S) H → va_D A (wsC K ad S) → va_S A s.heap H locs → lv_has ls_ 2 [(0, .ref (ad x0)), (1, va_re ad x1)] → W p l e ({ frames := 2, cells := 0, slots := 0, locals := 43 } : Room) s m #[Value.ref (ad x0)] below meth c H locs 0 0 Q (F0 m 33 ls_ []) := by
    intro S x1 H locs ls_ hE hp hZ hP hD hS hl
    unfold b_Y7_table_33 at hE
    unfold q_Y7_table_33 at hp
    subst hQ
    exact W.vret hx hb hr (fun t ht hW => ⟨⟨S, rfl, ⟨hE.trans hX.symm, hZ⟩, by rw [ht]; exact hP, hD⟩, hS.F ht⟩) hS.2.2 dX7_table_33
  have B_Y7_table_13a : ∀ (S : Cst) (x1 : Option Nat) (H : Heap) (locs : List Loc) (ls_ : Array Slot), b_Y7_table_13a S x0 x1 = X → q_Y7_table_13a S x0 x1 → eK S0 S → va_P G vwCl (wsC K ad S) H → va_D A (wsC K ad S) → va_S A s.heap H locs → lv_has ls_ 2 [(0, .ref (ad x0)), (1, va_re ad x1)] → W p l e ({ frames := 2, cells := 0, slots := 0, locals := 43 } : Room) s m #[Value.ref (ad x0)] below meth c H locs 0 0 Q (F0 m 13 ls_ []) := by
    intro S x1 H locs ls_ hE hp hZ hP hD hS hl
    unfold b_Y7_table_13a at hE
    unfold q_Y7_table_13a at hp
    refine cAload_n (ad := ad) (r := x1) hx hb dX7_table_13 rfl (lv_at hl 1 rfl) ?_
    refine cIfnull (ad := ad) (r := x1) (tgt := 33) hx hb dX7_table_14 (by decide) (fun c8 => ?_) (fun c8 => ?_)
    · rw [if_pos c8] at hE hp
      exact B_Y7_table_33 S x1 _ _ _ hE hp hZ hP hD hS (lv_sub hl [0, 1] rfl)
    · rw [if_neg c8] at hE hp
      refine cAload_n (ad := ad) (r := x1) hx hb dX7_table_17 rfl (lv_at hl 1 rfl) ?_
      refine lv_iconst (v := 3) hx hb dX7_table_18 (by decide) ?_
      obtain ⟨hy9, hp⟩ := hp
      refine cTop2 (r := x1) hy9.1 ?_
      refine va_put (D := G) (ci := 5) (v := .int 3) (ty := .int) (C := RX6) (T := TX6) (N := 2) hx hb hts iX6 tyX6 tyX6_ok nmX6 hown hK hP hD hS (x1.getD 0) (at_5 hy9.2) rfl 0 (by decide) (hw (.fieldLink RX7 185 "MotionFloor$Place" "sort" "I") (List.mem_of_getElem? (i := 8) rfl)) (fun _ h9 => h9) rfl (by decide +kernel) rfl rfl (Nat.le_of_ble_eq_true rfl) dX7_table_19 (fun H locs hP hD hS => ?_)
      rw [st_5_0 hy9.2] at hP hD
      have hZ := hZ.tr (eK.si S (x1.getD 0) 0 (3 : Int32))
      refine lv_aload_n hx hb dX7_table_22 rfl (lv_at hl 0 rfl) ?_
      refine va_get (D := G) (ci := 0) (v := va_re ad (grC (siC S (x1.getD 0) 0 (3 : Int32)) x0 1)) (C := RX0) (T := TX0) (N := 11) hx hb hts iX0 hown hK hP x0 (at_0 (k_x0.e hZ)) rfl 1 (by decide) (hw (.fieldLink RX7 58 "MotionFloor$Assembly" "pending" "LMotionFloor$Pile;") (List.mem_of_getElem? (i := 4) rfl)) (fun _ h9 => h9) rfl dX7_table_23 ?_
      refine cAload_n (ad := ad) (r := x1) hx hb dX7_table_26 rfl (lv_at hl 1 rfl) ?_
      obtain ⟨hy10, hp⟩ := hp
      refine cTop (r := x1) hy10.1 ?_
      refine va_get (D := G) (ci := 5) (v := va_re ad (grC (siC S (x1.getD 0) 0 (3 : Int32)) (x1.getD 0) 1)) (C := RX6) (T := TX6) (N := 2) hx hb hts iX6 hown hK hP (x1.getD 0) (at_5 hy10.2) rfl 1 (by decide) (hw (.fieldLink RX7 188 "MotionFloor$Place" "pile" "LMotionFloor$Pile;") (List.mem_of_getElem? (i := 9) rfl)) (fun _ h9 => h9) rfl dX7_table_27 ?_
      obtain ⟨hy11, hp⟩ := hp
      refine cTop2 (r := (grC (siC S (x1.getD 0) 0 (3 : Int32)) x0 1)) hy11.1 ?_
      obtain ⟨hy12, hp⟩ := hp
      refine cTop (r := (grC (siC S (x1.getD 0) 0 (3 : Int32)) (x1.getD 0) 1)) hy12.1 ?_
      obtain ⟨hy13, hp⟩ := hp
      refine cGov (va_runV (As := [.ref (ad ((grC (siC S (x1.getD 0) 0 (3 : Int32)) (x1.getD 0) 1).getD 0))]) (rest := []) ⟨hx, hb, hml, hown, hts⟩ (c_Y5_pourInto l G K ad (siC S (x1.getD 0) 0 (3 : Int32)) ((grC (siC S (x1.getD 0) 0 (3 : Int32)) x0 1).getD 0) ((grC (siC S (x1.getD 0) 0 (3 : Int32)) (x1.getD 0) 1).getD 0) _) (cwV 1 hts (wGV t_ (mw (.methodLink RX7 191 yX5_pourInto) (List.mem_of_getElem? (i := 10) rfl)) (mw (.instanceMethod yX5_pourInto) (List.mem_of_getElem? (i := 11) rfl)) (mw (.selects RX5 yX5_pourInto yX5_pourInto) (List.mem_of_getElem? (i := 12) rfl)) (mw (.initialized RX5) (List.mem_of_getElem? (i := 13) rfl)) j_Y5_pourInto) rfl rfl rfl (by decide +kernel) ⟨Nat.le_of_ble_eq_true rfl, Nat.le_of_ble_eq_true rfl⟩) (cPV hK hTE hP hD 4 rfl (at_4 hy11.2) ⟨hy11.2, hy12.2, hy13⟩) rfl rfl hl.1 rfl (lv_room (Nat.le_of_ble_eq_true rfl)) dX7_table_30 ⟨Nat.le_of_ble_eq_true rfl, Nat.le_of_ble_eq_true rfl⟩) hP hD hS hA (fun u14 H locs hv hP hD hS => ?_)
      obtain ⟨hv, hz⟩ := hv
      have hZ := hZ.tr hz
      rw [← hv] at hE hp
      dsimp only at hE hp
      exact B_Y7_table_33 u14 x1 _ _ _ hE hp hZ hP hD hS (lv_sub hl [0, 1] rfl)
  have B_M : ∀ (S : Cst) (H : Heap) (locs : List Loc) (ls_ : Array Slot), f_Y7_table S x0 = X → p_Y7_table S x0 → eK S0 S → va_P G vwCl (wsC K ad S) H → va_D A (wsC K ad S) → va_S A s.heap H locs → lv_has ls_ 2 [(0, .ref (ad x0))] → W p l e ({ frames := 2, cells := 0, slots := 0, locals := 43 } : Room) s m #[Value.ref (ad x0)] below meth c H locs 0 0 Q (F0 m 0 ls_ []) := by
    intro S H locs ls_ hE hp hZ hP hD hS hl
    unfold f_Y7_table at hE
    unfold p_Y7_table at hp
    refine lv_aload_n hx hb dX7_table_0 rfl (lv_at hl 0 rfl) ?_
    obtain ⟨hy1, hp⟩ := hp
    refine cGoq (va_runV (As := []) (rest := []) ⟨hx, hb, hml, hown, hts⟩ (c_Y0_firstFreePlace l G K ad S x0 _) (cwV 0 hts (wGV t_ (mw (.methodLink RX7 167 yX0_firstFreePlace) (List.mem_of_getElem? (i := 0) rfl)) (mw (.instanceMethod yX0_firstFreePlace) (List.mem_of_getElem? (i := 1) rfl)) (mw (.selects RX0 yX0_firstFreePlace yX0_firstFreePlace) (List.mem_of_getElem? (i := 2) rfl)) (mw (.initialized RX0) (List.mem_of_getElem? (i := 3) rfl)) j_Y0_firstFreePlace) rfl rfl rfl (by decide +kernel) ⟨Nat.le_of_ble_eq_true rfl, Nat.le_of_ble_eq_true rfl⟩) (cPV hK hTE hP hD 0 rfl (at_0 (k_x0.e hZ)) ⟨(k_x0.e hZ), hy1⟩) rfl rfl hl.1 rfl (lv_room (Nat.le_of_ble_eq_true rfl)) dX7_table_1 ⟨Nat.le_of_ble_eq_true rfl, Nat.le_of_ble_eq_true rfl⟩) hP hD hS hA (fun r3 u2 H locs hv hP hD hS => ?_)
    have h1 := congrArg Prod.fst hv
    have h2 := (congrArg Prod.snd hv).symm
    dsimp only at h1 h2
    subst h1
    subst h2
    refine cAstore_n (ad := ad) (r := (f_Y0_firstFreePlace S x0)) (i := 1) (lv' := [(1, va_re ad (f_Y0_firstFreePlace S x0)), (0, .ref (ad x0))]) hx hb dX7_table_4 rfl hl (by decide) rfl (fun ls_ hl => ?_)
    refine lv_aload_n hx hb dX7_table_5 rfl (lv_at hl 1 rfl) ?_
    refine lv_aload_n hx hb dX7_table_6 rfl (lv_at hl 1 rfl) ?_
    refine va_get (D := G) (ci := 0) (v := va_re ad (grC S x0 1)) (C := RX0) (T := TX0) (N := 11) hx hb hts iX0 hown hK hP x0 (at_0 (k_x0.e hZ)) rfl 1 (by decide) (hw (.fieldLink RX7 58 "MotionFloor$Assembly" "pending" "LMotionFloor$Pile;") (List.mem_of_getElem? (i := 4) rfl)) (fun _ h9 => h9) rfl dX7_table_7 ?_
    obtain ⟨hy4, hp⟩ := hp
    refine cTop (r := (grC S x0 1)) hy4.1 ?_
    obtain ⟨hy5, hp⟩ := hp
    refine cGov (va_runV (As := [.ref (ad ((grC S x0 1).getD 0))]) (rest := []) ⟨hx, hb, hml, hown, hts⟩ (c_Y0_dropTop l G K ad S x0 ((grC S x0 1).getD 0) _) (cwV 1 hts (wGV t_ (mw (.methodLink RX7 62 yX0_dropTop) (List.mem_of_getElem? (i := 5) rfl)) (mw (.instanceMethod yX0_dropTop) (List.mem_of_getElem? (i := 6) rfl)) (mw (.selects RX0 yX0_dropTop yX0_dropTop) (List.mem_of_getElem? (i := 7) rfl)) (mw (.initialized RX0) (List.mem_of_getElem? (i := 3) rfl)) j_Y0_dropTop) rfl rfl rfl (by decide +kernel) ⟨Nat.le_of_ble_eq_true rfl, Nat.le_of_ble_eq_true rfl⟩) (cPV hK hTE hP hD 0 rfl (at_0 (k_x0.e hZ)) ⟨(k_x0.e hZ), hy4.2, hy5⟩) rfl rfl hl.1 rfl (lv_room (Nat.le_of_ble_eq_true rfl)) dX7_table_10 ⟨Nat.le_of_ble_eq_true rfl, Nat.le_of_ble_eq_true rfl⟩) hP hD hS hA (fun u6 H locs hv hP hD hS => ?_)
    obtain ⟨hv, hz⟩ := hv
    have hZ := hZ.tr hz
    rw [← hv] at hE hp
    dsimp only at hE hp
    exact B_Y7_table_13a u6 (f_Y0_firstFreePlace S x0) _ _ _ hE hp hZ hP hD hS (lv_sub hl [1, 0] rfl)
  exact B_M S0 _ _ _ hX hp (eK.rf S0) hP hD hS hl
theorem gdX8_against_0 : ckS (List.drop 0 cX8_against.data.toList) 0 [(0, .iload_n 1, 1), (1, .bipush 9, 2), (3, .if_icmp .gt 15, 3), (18, .iload_n 1, 1), (19, .bipush 14, 2), (21, .if_icmp .gt 19, 3), (40, .aload_n 0, 1), (41, .iload_n 1, 1), (42, .iload_n 2, 1), (43, .iload_n 3, 1), (44, .invokestatic 19, 3)] = true := by decide +kernel
theorem dX8_against_0 : decode cX8_against 0 = .ok (.iload_n 1, 1) := ckS_g gdX8_against_0 0 rfl
theorem dX8_against_1 : decode cX8_against 1 = .ok (.bipush 9, 2) := ckS_g gdX8_against_0 1 rfl
theorem dX8_against_3 : decode cX8_against 3 = .ok (.if_icmp .gt 15, 3) := ckS_g gdX8_against_0 2 rfl
theorem dX8_against_18 : decode cX8_against 18 = .ok (.iload_n 1, 1) := ckS_g gdX8_against_0 3 rfl
theorem dX8_against_19 : decode cX8_against 19 = .ok (.bipush 14, 2) := ckS_g gdX8_against_0 4 rfl
theorem dX8_against_21 : decode cX8_against 21 = .ok (.if_icmp .gt 19, 3) := ckS_g gdX8_against_0 5 rfl
theorem dX8_against_40 : decode cX8_against 40 = .ok (.aload_n 0, 1) := ckS_g gdX8_against_0 6 rfl
theorem dX8_against_41 : decode cX8_against 41 = .ok (.iload_n 1, 1) := ckS_g gdX8_against_0 7 rfl
theorem dX8_against_42 : decode cX8_against 42 = .ok (.iload_n 2, 1) := ckS_g gdX8_against_0 8 rfl
theorem dX8_against_43 : decode cX8_against 43 = .ok (.iload_n 3, 1) := ckS_g gdX8_against_0 9 rfl
theorem dX8_against_44 : decode cX8_against 44 = .ok (.invokestatic 19, 3) := ckS_g gdX8_against_0 10 rfl
theorem gdX8_againstAbsent_0 : ckS (List.drop 0 cX8_againstAbsent.data.toList) 0 [(0, .aload_n 0, 1), (1, .iload_n 1, 1), (2, .invokevirtual 114, 3), (5, .ifCond .ne 6, 3), (8, .bipush 9, 2), (10, .ireturn, 1), (11, .aload_n 0, 1), (12, .iload_n 1, 1), (13, .invokevirtual 82, 3), (16, .ifCond .eq 7, 3), (19, .iconst 0, 1), (20, .goto 5, 3), (23, .bipush 8, 2), (25, .ireturn, 1)] = true := by decide +kernel
theorem dX8_againstAbsent_0 : decode cX8_againstAbsent 0 = .ok (.aload_n 0, 1) := ckS_g gdX8_againstAbsent_0 0 rfl
theorem dX8_againstAbsent_1 : decode cX8_againstAbsent 1 = .ok (.iload_n 1, 1) := ckS_g gdX8_againstAbsent_0 1 rfl
theorem dX8_againstAbsent_2 : decode cX8_againstAbsent 2 = .ok (.invokevirtual 114, 3) := ckS_g gdX8_againstAbsent_0 2 rfl
theorem dX8_againstAbsent_5 : decode cX8_againstAbsent 5 = .ok (.ifCond .ne 6, 3) := ckS_g gdX8_againstAbsent_0 3 rfl
theorem dX8_againstAbsent_8 : decode cX8_againstAbsent 8 = .ok (.bipush 9, 2) := ckS_g gdX8_againstAbsent_0 4 rfl
theorem dX8_againstAbsent_10 : decode cX8_againstAbsent 10 = .ok (.ireturn, 1) := ckS_g gdX8_againstAbsent_0 5 rfl
theorem dX8_againstAbsent_11 : decode cX8_againstAbsent 11 = .ok (.aload_n 0, 1) := ckS_g gdX8_againstAbsent_0 6 rfl
theorem dX8_againstAbsent_12 : decode cX8_againstAbsent 12 = .ok (.iload_n 1, 1) := ckS_g gdX8_againstAbsent_0 7 rfl
theorem dX8_againstAbsent_13 : decode cX8_againstAbsent 13 = .ok (.invokevirtual 82, 3) := ckS_g gdX8_againstAbsent_0 8 rfl
theorem dX8_againstAbsent_16 : decode cX8_againstAbsent 16 = .ok (.ifCond .eq 7, 3) := ckS_g gdX8_againstAbsent_0 9 rfl
theorem dX8_againstAbsent_19 : decode cX8_againstAbsent 19 = .ok (.iconst 0, 1) := ckS_g gdX8_againstAbsent_0 10 rfl
theorem dX8_againstAbsent_20 : decode cX8_againstAbsent 20 = .ok (.goto 5, 3) := ckS_g gdX8_againstAbsent_0 11 rfl
theorem dX8_againstAbsent_23 : decode cX8_againstAbsent 23 = .ok (.bipush 8, 2) := ckS_g gdX8_againstAbsent_0 12 rfl
theorem dX8_againstAbsent_25 : decode cX8_againstAbsent 25 = .ok (.ireturn, 1) := ckS_g gdX8_againstAbsent_0 13 rfl
theorem dX8_againstOnMotion_84 : decode cX8_againstOnMotion 84 = .ok (.tableswitch 94 16 21 #[40, 51, 63, 74, 81, 92], 40) := by decide +kernel
theorem gdX8_againstOnMotion_0 : ckS (List.drop 0 cX8_againstOnMotion.data.toList) 0 [(0, .iload_n 1, 1), (1, .bipush 15, 2), (3, .if_icmp .ne 9, 3), (12, .aload_n 0, 1), (13, .getfield 34, 3), (16, .aload_n 0, 1), (17, .getfield 34, 3), (20, .getfield 79, 3), (23, .invokevirtual 82, 3), (26, .istore 4, 2), (28, .iload_n 1, 1), (29, .bipush 22, 2), (31, .if_icmp .ne 15, 3), (46, .iload_n 1, 1), (47, .bipush 19, 2), (49, .if_icmp .eq 9, 3), (58, .iload 4, 2), (60, .ifCond .ne 6, 3), (66, .aload_n 0, 1), (67, .getfield 86, 3), (70, .invokevirtual 90, 3), (73, .astore 5, 2), (75, .aload 5, 2), (77, .ifnonnull 6, 3), (80, .bipush 7, 2), (82, .ireturn, 1), (83, .iload_n 1, 1), (124, .aload_n 0, 1), (125, .getfield 34, 3), (128, .aload 5, 2), (130, .iload_n 2, 1), (131, .invokestatic 96, 3)] = true := by decide +kernel
theorem dX8_againstOnMotion_0 : decode cX8_againstOnMotion 0 = .ok (.iload_n 1, 1) := ckS_g gdX8_againstOnMotion_0 0 rfl
theorem dX8_againstOnMotion_1 : decode cX8_againstOnMotion 1 = .ok (.bipush 15, 2) := ckS_g gdX8_againstOnMotion_0 1 rfl
theorem dX8_againstOnMotion_3 : decode cX8_againstOnMotion 3 = .ok (.if_icmp .ne 9, 3) := ckS_g gdX8_againstOnMotion_0 2 rfl
theorem dX8_againstOnMotion_12 : decode cX8_againstOnMotion 12 = .ok (.aload_n 0, 1) := ckS_g gdX8_againstOnMotion_0 3 rfl
theorem dX8_againstOnMotion_13 : decode cX8_againstOnMotion 13 = .ok (.getfield 34, 3) := ckS_g gdX8_againstOnMotion_0 4 rfl
theorem dX8_againstOnMotion_16 : decode cX8_againstOnMotion 16 = .ok (.aload_n 0, 1) := ckS_g gdX8_againstOnMotion_0 5 rfl
theorem dX8_againstOnMotion_17 : decode cX8_againstOnMotion 17 = .ok (.getfield 34, 3) := ckS_g gdX8_againstOnMotion_0 6 rfl
theorem dX8_againstOnMotion_20 : decode cX8_againstOnMotion 20 = .ok (.getfield 79, 3) := ckS_g gdX8_againstOnMotion_0 7 rfl
theorem dX8_againstOnMotion_23 : decode cX8_againstOnMotion 23 = .ok (.invokevirtual 82, 3) := ckS_g gdX8_againstOnMotion_0 8 rfl
theorem dX8_againstOnMotion_26 : decode cX8_againstOnMotion 26 = .ok (.istore 4, 2) := ckS_g gdX8_againstOnMotion_0 9 rfl
theorem dX8_againstOnMotion_28 : decode cX8_againstOnMotion 28 = .ok (.iload_n 1, 1) := ckS_g gdX8_againstOnMotion_0 10 rfl
theorem dX8_againstOnMotion_29 : decode cX8_againstOnMotion 29 = .ok (.bipush 22, 2) := ckS_g gdX8_againstOnMotion_0 11 rfl
theorem dX8_againstOnMotion_31 : decode cX8_againstOnMotion 31 = .ok (.if_icmp .ne 15, 3) := ckS_g gdX8_againstOnMotion_0 12 rfl
theorem dX8_againstOnMotion_46 : decode cX8_againstOnMotion 46 = .ok (.iload_n 1, 1) := ckS_g gdX8_againstOnMotion_0 13 rfl
theorem dX8_againstOnMotion_47 : decode cX8_againstOnMotion 47 = .ok (.bipush 19, 2) := ckS_g gdX8_againstOnMotion_0 14 rfl
theorem dX8_againstOnMotion_49 : decode cX8_againstOnMotion 49 = .ok (.if_icmp .eq 9, 3) := ckS_g gdX8_againstOnMotion_0 15 rfl
theorem dX8_againstOnMotion_58 : decode cX8_againstOnMotion 58 = .ok (.iload 4, 2) := ckS_g gdX8_againstOnMotion_0 16 rfl
theorem dX8_againstOnMotion_60 : decode cX8_againstOnMotion 60 = .ok (.ifCond .ne 6, 3) := ckS_g gdX8_againstOnMotion_0 17 rfl
theorem dX8_againstOnMotion_66 : decode cX8_againstOnMotion 66 = .ok (.aload_n 0, 1) := ckS_g gdX8_againstOnMotion_0 18 rfl
theorem dX8_againstOnMotion_67 : decode cX8_againstOnMotion 67 = .ok (.getfield 86, 3) := ckS_g gdX8_againstOnMotion_0 19 rfl
theorem dX8_againstOnMotion_70 : decode cX8_againstOnMotion 70 = .ok (.invokevirtual 90, 3) := ckS_g gdX8_againstOnMotion_0 20 rfl
theorem dX8_againstOnMotion_73 : decode cX8_againstOnMotion 73 = .ok (.astore 5, 2) := ckS_g gdX8_againstOnMotion_0 21 rfl
theorem dX8_againstOnMotion_75 : decode cX8_againstOnMotion 75 = .ok (.aload 5, 2) := ckS_g gdX8_againstOnMotion_0 22 rfl
theorem dX8_againstOnMotion_77 : decode cX8_againstOnMotion 77 = .ok (.ifnonnull 6, 3) := ckS_g gdX8_againstOnMotion_0 23 rfl
theorem dX8_againstOnMotion_80 : decode cX8_againstOnMotion 80 = .ok (.bipush 7, 2) := ckS_g gdX8_againstOnMotion_0 24 rfl
theorem dX8_againstOnMotion_82 : decode cX8_againstOnMotion 82 = .ok (.ireturn, 1) := ckS_g gdX8_againstOnMotion_0 25 rfl
theorem dX8_againstOnMotion_83 : decode cX8_againstOnMotion 83 = .ok (.iload_n 1, 1) := ckS_g gdX8_againstOnMotion_0 26 rfl
theorem dX8_againstOnMotion_124 : decode cX8_againstOnMotion 124 = .ok (.aload_n 0, 1) := ckS_g gdX8_againstOnMotion_0 27 rfl
theorem dX8_againstOnMotion_125 : decode cX8_againstOnMotion 125 = .ok (.getfield 34, 3) := ckS_g gdX8_againstOnMotion_0 28 rfl
theorem dX8_againstOnMotion_128 : decode cX8_againstOnMotion 128 = .ok (.aload 5, 2) := ckS_g gdX8_againstOnMotion_0 29 rfl
theorem dX8_againstOnMotion_130 : decode cX8_againstOnMotion 130 = .ok (.iload_n 2, 1) := ckS_g gdX8_againstOnMotion_0 30 rfl
theorem dX8_againstOnMotion_131 : decode cX8_againstOnMotion 131 = .ok (.invokestatic 96, 3) := ckS_g gdX8_againstOnMotion_0 31 rfl
theorem gdX8_againstSecond_0 : ckS (List.drop 0 cX8_againstSecond.data.toList) 0 [(0, .aload_n 0, 1), (1, .iload_n 2, 1), (2, .invokestatic 42, 3)] = true := by decide +kernel
theorem dX8_againstSecond_0 : decode cX8_againstSecond 0 = .ok (.aload_n 0, 1) := ckS_g gdX8_againstSecond_0 0 rfl
theorem dX8_againstSecond_1 : decode cX8_againstSecond 1 = .ok (.iload_n 2, 1) := ckS_g gdX8_againstSecond_0 1 rfl
theorem dX8_againstSecond_2 : decode cX8_againstSecond 2 = .ok (.invokestatic 42, 3) := ckS_g gdX8_againstSecond_0 2 rfl
set_option maxRecDepth 100000 in
theorem zc366 : wZ (.methodLink RX8 82 yX2_isThere) := ⟨wT2 (List.mem_of_getElem? (i := 62) (by decide +kernel)), Or.inl rfl⟩
set_option maxRecDepth 100000 in
theorem zc367 : wZ (.methodLink RX8 114 yX2_has) := ⟨wT2 (List.mem_of_getElem? (i := 58) (by decide +kernel)), Or.inl rfl⟩
set_option maxRecDepth 100000 in
theorem zc368 : wZ (.code yX8_againstAbsent cX8_againstAbsent 2 (some .int)) := ⟨wT2 (List.mem_of_getElem? (i := 68) rfl), Or.inl rfl⟩
def b_Y8_againstAbsent_25 (S : Cst) (x0 : Nat) (x1 : Int32) (y0 : Int32) : Int32 := y0
def q_Y8_againstAbsent_25 (S : Cst) (x0 : Nat) (x1 : Int32) (y0 : Int32) : Prop := True
def f_Y8_againstAbsent (S : Cst) (x0 : Nat) (x1 : Int32) : Int32 := if (f_Y2_has S x0 x1) = 0 then (9 : Int32) else if (f_Y2_isThere S x0 x1) = 0 then (b_Y8_againstAbsent_25 S x0 x1 8) else (b_Y8_againstAbsent_25 S x0 x1 0)
def p_Y8_againstAbsent (S : Cst) (x0 : Nat) (x1 : Int32) : Prop := (p_Y2_has S x0 x1) ∧ (if (f_Y2_has S x0 x1) = 0 then True else (p_Y2_isThere S x0 x1) ∧ (if (f_Y2_isThere S x0 x1) = 0 then (q_Y8_againstAbsent_25 S x0 x1 8) else (q_Y8_againstAbsent_25 S x0 x1 0)))
def e_Y8_againstAbsent : List Cond := [.methodLink RX8 114 yX2_has, .instanceMethod yX2_has, .selects RX2 yX2_has yX2_has, .initialized RX2, .methodLink RX8 82 yX2_isThere, .instanceMethod yX2_isThere, .selects RX2 yX2_isThere yX2_isThere]
def v_Y8_againstAbsent : List Cond := .code yX8_againstAbsent cX8_againstAbsent 2 (some .int) :: (e_Y8_againstAbsent ++ (v_Y2_has ++ (v_Y2_isThere ++ [])))
theorem te_Y8_againstAbsent : GoodIn lw_tbl e_Y8_againstAbsent := wGc zc367 (wGc zc215 (wGc zc214 (wGc zc77 (wGc zc366 (wGc zc226 (wGc zc225 (wG0)))))))
theorem t_Y8_againstAbsent : GoodIn lw_tbl v_Y8_againstAbsent := wGc zc368 (wGa te_Y8_againstAbsent (wGa t_Y2_has (wGa t_Y2_isThere (wG0))))
set_option maxHeartbeats 4000000 in
set_option maxRecDepth 100000 in
theorem c_Y8_againstAbsent (l : Launch) (G : va_G) (K : Nat → ClassId) (ad : Nat → Nat) (S : Cst) (x0 : Nat) (a1 : Int32) (sz : Nat) : Met l yX8_againstAbsent v_Y8_againstAbsent ({ frames := 1, cells := 0, slots := 0, locals := 21 }) (va_Pc [.ref (ad x0), .int a1] (cSt G K ad sz S (iK S x0 1 ∧ p_Y8_againstAbsent S x0 a1))) (va_Qi (fun (r : Int32) (u : Cst) => (r, u) = (f_Y8_againstAbsent S x0 a1, S)) (cBt G K ad (va_A (wsC K ad S) sz)) (va_A (wsC K ad S) sz)) 0 0 (va_A (wsC K ad S) sz) := by
  refine Met.ofW (cc := cX8_againstAbsent) (maxL := 2) (ret := (some .int)) (by decide) rfl ?_
  intro p e s m args below meth c s₁ B hml hv
  obtain ⟨rfl, ⟨hsz, hP, hK, hD0, hTE⟩, hp⟩ := hv
  obtain ⟨k_x0, hp⟩ := hp
  have hx := B.exec
  have hb := B.bytes
  have hr := B.returns
  have hts := atoms_spec (ws := v_Y8_againstAbsent) B.pre
  have t_ := t_Y8_againstAbsent
  have mw : ∀ w ∈ e_Y8_againstAbsent, w ∈ v_Y8_againstAbsent := fun w h => List.mem_cons_of_mem _ (List.mem_append_left _ h)
  have hw := fun w (h : w ∈ e_Y8_againstAbsent) => hts w (mw w h)
  have j_Y2_has : ∀ w ∈ v_Y2_has, w ∈ v_Y8_againstAbsent := fun w h => List.mem_cons_of_mem _ (List.mem_append_right _ (List.mem_append_left _ h))
  have j_Y2_isThere : ∀ w ∈ v_Y2_isThere, w ∈ v_Y8_againstAbsent := fun w h => List.mem_cons_of_mem _ (List.mem_append_right _ (List.mem_append_right _ (List.mem_append_left _ h)))
  have hown : s.vm.findClass RX8 = some m.cls := findClass_of_methodNamed B.named
  have hlocks := B.notSynchronized
  subst hsz
  have hD := hD0.self (sz := s.heap.size)
  generalize hAe : va_A (wsC K ad S) s.heap.size = A at hD ⊢
  have hA : ∀ q : Nat, s.heap.size ≤ q → A q := fun q h => by rw [← hAe]; exact Or.inr h
  have hS : va_S A s.heap s.heap [] := va_S.rf
  have hl : lv_has (lg_sl ([.ref (ad x0), .int a1]) ++ List.replicate (2 - (lg_sl ([.ref (ad x0), .int a1])).length) Slot.unset).toArray 2 [(0, .ref (ad x0)), (1, .int a1)] := by
    exact lv_entry ([.ref (ad x0), .int a1]) (n := 2) (Nat.le_of_ble_eq_true rfl)
  rw [lg_entry_eq]
  generalize (lg_sl ([.ref (ad x0), .int a1]) ++ List.replicate (2 - (lg_sl ([.ref (ad x0), .int a1])).length) Slot.unset).toArray = ls_ at hl ⊢
  refine wGen (fun Q hQ => ?_)
  obtain ⟨X, hX⟩ : ∃ X, f_Y8_againstAbsent S x0 a1 = X := ⟨_, rfl⟩
  have B_Y8_againstAbsent_25 : ∀ (x1 : Int32) (y0 : Int32) (H : Heap) (locs : List Loc) (ls_ : Array Slot), b_Y8_againstAbsent_25 S x0 x1 y0 = X → q_Y8_againstAbsent_25 S x0 x1 y0 → va_P G vwCl (wsC K ad S) H → va_D A (wsC K ad S) → va_S A s.heap H locs → lv_has ls_ 2 [(0, .ref (ad x0)), (1, .int x1)] → W p l e ({ frames := 1, cells := 0, slots := 0, locals := 21 } : Room) s m #[Value.ref (ad x0), Value.int a1] below meth c H locs 0 0 Q (F0 m 25 ls_ [.int y0]) := by
    intro x1 y0 H locs ls_ hE hp hP hD hS hl
    unfold b_Y8_againstAbsent_25 at hE
    unfold q_Y8_againstAbsent_25 at hp
    subst hQ
    exact W.iret (v := y0) hx hb hr (fun t ht hW => ⟨⟨y0, S, rfl, (pair_i (hE.trans hX.symm)), by rw [ht]; exact hP, hD⟩, hS.F ht⟩) hS.2.2 dX8_againstAbsent_25
  have B_M : ∀ (x1 : Int32) (H : Heap) (locs : List Loc) (ls_ : Array Slot), f_Y8_againstAbsent S x0 x1 = X → p_Y8_againstAbsent S x0 x1 → va_P G vwCl (wsC K ad S) H → va_D A (wsC K ad S) → va_S A s.heap H locs → lv_has ls_ 2 [(0, .ref (ad x0)), (1, .int x1)] → W p l e ({ frames := 1, cells := 0, slots := 0, locals := 21 } : Room) s m #[Value.ref (ad x0), Value.int a1] below meth c H locs 0 0 Q (F0 m 0 ls_ []) := by
    intro x1 H locs ls_ hE hp hP hD hS hl
    unfold f_Y8_againstAbsent at hE
    unfold p_Y8_againstAbsent at hp
    refine lv_aload_n hx hb dX8_againstAbsent_0 rfl (lv_at hl 0 rfl) ?_
    refine lv_iload_n hx hb dX8_againstAbsent_1 rfl (lv_at hl 1 rfl) ?_
    obtain ⟨hy1, hp⟩ := hp
    refine cGoi (va_runV (As := [.int x1]) (rest := []) ⟨hx, hb, hml, hown, hts⟩ (c_Y2_has l G K ad S x0 x1 _) (cwV 1 hts (wGV t_ (mw (.methodLink RX8 114 yX2_has) (List.mem_of_getElem? (i := 0) rfl)) (mw (.instanceMethod yX2_has) (List.mem_of_getElem? (i := 1) rfl)) (mw (.selects RX2 yX2_has yX2_has) (List.mem_of_getElem? (i := 2) rfl)) (mw (.initialized RX2) (List.mem_of_getElem? (i := 3) rfl)) j_Y2_has) rfl rfl rfl (by decide +kernel) ⟨Nat.le_of_ble_eq_true rfl, Nat.le_of_ble_eq_true rfl⟩) (cPV hK hTE hP hD 1 rfl (at_1 k_x0) ⟨k_x0, hy1⟩) rfl rfl hl.1 rfl (lv_room (Nat.le_of_ble_eq_true rfl)) dX8_againstAbsent_2 ⟨Nat.le_of_ble_eq_true rfl, Nat.le_of_ble_eq_true rfl⟩) hP hD hS hA (fun r3 u2 H locs hv hP hD hS => ?_)
    have h1 := congrArg Prod.fst hv
    have h2 := (congrArg Prod.snd hv).symm
    dsimp only at h1 h2
    subst h1
    subst h2
    refine lv_if_ne (tgt := 11) hx hb dX8_againstAbsent_5 (by decide) (fun c4 => ?_) (fun c4 => ?_)
    · rw [if_neg c4] at hE hp
      refine lv_aload_n hx hb dX8_againstAbsent_11 rfl (lv_at hl 0 rfl) ?_
      refine lv_iload_n hx hb dX8_againstAbsent_12 rfl (lv_at hl 1 rfl) ?_
      obtain ⟨hy5, hp⟩ := hp
      refine cGoi (va_runV (As := [.int x1]) (rest := []) ⟨hx, hb, hml, hown, hts⟩ (c_Y2_isThere l G K ad S x0 x1 _) (cwV 1 hts (wGV t_ (mw (.methodLink RX8 82 yX2_isThere) (List.mem_of_getElem? (i := 4) rfl)) (mw (.instanceMethod yX2_isThere) (List.mem_of_getElem? (i := 5) rfl)) (mw (.selects RX2 yX2_isThere yX2_isThere) (List.mem_of_getElem? (i := 6) rfl)) (mw (.initialized RX2) (List.mem_of_getElem? (i := 3) rfl)) j_Y2_isThere) rfl rfl rfl (by decide +kernel) ⟨Nat.le_of_ble_eq_true rfl, Nat.le_of_ble_eq_true rfl⟩) (cPV hK hTE hP hD 1 rfl (at_1 k_x0) ⟨k_x0, hy5⟩) rfl rfl hl.1 rfl (lv_room (Nat.le_of_ble_eq_true rfl)) dX8_againstAbsent_13 ⟨Nat.le_of_ble_eq_true rfl, Nat.le_of_ble_eq_true rfl⟩) hP hD hS hA (fun r7 u6 H locs hv hP hD hS => ?_)
      have h1 := congrArg Prod.fst hv
      have h2 := (congrArg Prod.snd hv).symm
      dsimp only at h1 h2
      subst h1
      subst h2
      refine lv_if_eq (tgt := 23) hx hb dX8_againstAbsent_16 (by decide) (fun c8 => ?_) (fun c8 => ?_)
      · rw [if_pos c8] at hE hp
        refine lv_bipush (v := 8) hx hb dX8_againstAbsent_23 (by decide) ?_
        exact B_Y8_againstAbsent_25 x1 8 _ _ _ hE hp hP hD hS (lv_sub hl [0, 1] rfl)
      · rw [if_neg c8] at hE hp
        refine lv_iconst (v := 0) hx hb dX8_againstAbsent_19 (by decide) ?_
        refine lv_goto (tgt := 25) hx hb dX8_againstAbsent_20 (by decide) ?_
        exact B_Y8_againstAbsent_25 x1 0 _ _ _ hE hp hP hD hS (lv_sub hl [0, 1] rfl)
    · rw [if_pos c4] at hE hp
      refine lv_bipush (v := 9) hx hb dX8_againstAbsent_8 (by decide) ?_
      subst hQ
      exact W.iret (v := (9 : Int32)) hx hb hr (fun t ht hW => ⟨⟨(9 : Int32), S, rfl, (pair_i (hE.trans hX.symm)), by rw [ht]; exact hP, hD⟩, hS.F ht⟩) hS.2.2 dX8_againstAbsent_10
  exact B_M a1 _ _ _ hX hp hP hD hS hl
