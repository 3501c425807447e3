/-! ===== the reference's Hall: its int fields and its arrays, by the places of the fields ===== -/
abbrev HS : Type := (Nat → Int32) × (Nat → Nat → Int32)
def sI (S : HS) (k : Nat) (v : Int32) : HS := (upd S.1 k v, S.2)
def sA (S : HS) (k i : Nat) (v : Int32) : HS := (S.1, fun j => if j = k then upd (S.2 k) i v else S.2 j)
def hF (g : Nat → Nat) (S : HS) : List Value := [.int (S.1 0), .int (S.1 1), .int (S.1 2), .int (S.1 3), .int (S.1 4), .int (S.1 5), .int (S.1 6), .int (S.1 7), .int (S.1 8), .int (S.1 9), .int (S.1 10), .ref (g 11), .ref (g 12), .ref (g 13), .ref (g 14), .ref (g 15), .ref (g 16), .ref (g 17), .ref (g 18), .ref (g 19), .ref (g 20), .ref (g 21), .ref (g 22), .ref (g 23), .ref (g 24), .ref (g 25), .ref (g 26), .ref (g 27), .ref (g 28), .ref (g 29), .int (S.1 30), .ref (g 31), .ref (g 32), .ref (g 33), .ref (g 34), .int (S.1 35), .int (S.1 36), .ref (g 37), .ref (g 38), .int (S.1 39), .ref (g 40), .ref (g 41)]
def hW (K : Nat → ClassId) (h : Nat) (g : Nat → Nat) (S : HS) : va_W := [(h, .inr (8, hF g S)), (g 11, .inl (K 1, 200, .inl (S.2 11))), (g 12, .inl (K 0, 9, .inl (S.2 12))), (g 13, .inl (K 1, 90, .inl (S.2 13))), (g 14, .inl (K 0, 90, .inl (S.2 14))), (g 15, .inl (K 0, 90, .inl (S.2 15))), (g 16, .inl (K 0, 90, .inl (S.2 16))), (g 17, .inl (K 0, 90, .inl (S.2 17))), (g 18, .inl (K 0, 90, .inl (S.2 18))), (g 19, .inl (K 0, 90, .inl (S.2 19))), (g 20, .inl (K 0, 90, .inl (S.2 20))), (g 21, .inl (K 0, 90, .inl (S.2 21))), (g 22, .inl (K 0, 90, .inl (S.2 22))), (g 23, .inl (K 0, 90, .inl (S.2 23))), (g 24, .inl (K 1, 90, .inl (S.2 24))), (g 25, .inl (K 1, 90, .inl (S.2 25))), (g 26, .inl (K 1, 90, .inl (S.2 26))), (g 27, .inl (K 1, 90, .inl (S.2 27))), (g 28, .inl (K 0, 36000, .inl (S.2 28))), (g 29, .inl (K 2, 18000, .inl (S.2 29))), (g 31, .inl (K 0, 9, .inl (S.2 31))), (g 32, .inl (K 0, 9, .inl (S.2 32))), (g 33, .inl (K 0, 72, .inl (S.2 33))), (g 34, .inl (K 0, 8, .inl (S.2 34))), (g 37, .inl (K 1, 8, .inl (S.2 37))), (g 38, .inl (K 0, 400, .inl (S.2 38))), (g 40, .inl (K 0, 3600, .inl (S.2 40))), (g 41, .inl (K 0, 3000, .inl (S.2 41)))]
theorem sI_0 (K : Nat → ClassId) (h : Nat) (g : Nat → Nat) (S : HS) (v : Int32) : (hW K h g S).set 0 (h, .inr (8, (hF g S).set 0 (.int v))) = hW K h g (sI S 0 v) := rfl
theorem sI_1 (K : Nat → ClassId) (h : Nat) (g : Nat → Nat) (S : HS) (v : Int32) : (hW K h g S).set 0 (h, .inr (8, (hF g S).set 1 (.int v))) = hW K h g (sI S 1 v) := rfl
theorem sI_2 (K : Nat → ClassId) (h : Nat) (g : Nat → Nat) (S : HS) (v : Int32) : (hW K h g S).set 0 (h, .inr (8, (hF g S).set 2 (.int v))) = hW K h g (sI S 2 v) := rfl
theorem sI_3 (K : Nat → ClassId) (h : Nat) (g : Nat → Nat) (S : HS) (v : Int32) : (hW K h g S).set 0 (h, .inr (8, (hF g S).set 3 (.int v))) = hW K h g (sI S 3 v) := rfl
theorem sI_4 (K : Nat → ClassId) (h : Nat) (g : Nat → Nat) (S : HS) (v : Int32) : (hW K h g S).set 0 (h, .inr (8, (hF g S).set 4 (.int v))) = hW K h g (sI S 4 v) := rfl
theorem sI_5 (K : Nat → ClassId) (h : Nat) (g : Nat → Nat) (S : HS) (v : Int32) : (hW K h g S).set 0 (h, .inr (8, (hF g S).set 5 (.int v))) = hW K h g (sI S 5 v) := rfl
theorem sI_6 (K : Nat → ClassId) (h : Nat) (g : Nat → Nat) (S : HS) (v : Int32) : (hW K h g S).set 0 (h, .inr (8, (hF g S).set 6 (.int v))) = hW K h g (sI S 6 v) := rfl
theorem sI_7 (K : Nat → ClassId) (h : Nat) (g : Nat → Nat) (S : HS) (v : Int32) : (hW K h g S).set 0 (h, .inr (8, (hF g S).set 7 (.int v))) = hW K h g (sI S 7 v) := rfl
theorem sI_8 (K : Nat → ClassId) (h : Nat) (g : Nat → Nat) (S : HS) (v : Int32) : (hW K h g S).set 0 (h, .inr (8, (hF g S).set 8 (.int v))) = hW K h g (sI S 8 v) := rfl
theorem sI_9 (K : Nat → ClassId) (h : Nat) (g : Nat → Nat) (S : HS) (v : Int32) : (hW K h g S).set 0 (h, .inr (8, (hF g S).set 9 (.int v))) = hW K h g (sI S 9 v) := rfl
theorem sI_10 (K : Nat → ClassId) (h : Nat) (g : Nat → Nat) (S : HS) (v : Int32) : (hW K h g S).set 0 (h, .inr (8, (hF g S).set 10 (.int v))) = hW K h g (sI S 10 v) := rfl
theorem sI_30 (K : Nat → ClassId) (h : Nat) (g : Nat → Nat) (S : HS) (v : Int32) : (hW K h g S).set 0 (h, .inr (8, (hF g S).set 30 (.int v))) = hW K h g (sI S 30 v) := rfl
theorem sI_35 (K : Nat → ClassId) (h : Nat) (g : Nat → Nat) (S : HS) (v : Int32) : (hW K h g S).set 0 (h, .inr (8, (hF g S).set 35 (.int v))) = hW K h g (sI S 35 v) := rfl
theorem sI_36 (K : Nat → ClassId) (h : Nat) (g : Nat → Nat) (S : HS) (v : Int32) : (hW K h g S).set 0 (h, .inr (8, (hF g S).set 36 (.int v))) = hW K h g (sI S 36 v) := rfl
theorem sI_39 (K : Nat → ClassId) (h : Nat) (g : Nat → Nat) (S : HS) (v : Int32) : (hW K h g S).set 0 (h, .inr (8, (hF g S).set 39 (.int v))) = hW K h g (sI S 39 v) := rfl
theorem sA_11 (K : Nat → ClassId) (h : Nat) (g : Nat → Nat) (S : HS) (i : Nat) (v : Int32) : (hW K h g S).set 1 (g 11, .inl (K 1, 200, .inl (upd (S.2 11) i v))) = hW K h g (sA S 11 i v) := rfl
theorem sA_12 (K : Nat → ClassId) (h : Nat) (g : Nat → Nat) (S : HS) (i : Nat) (v : Int32) : (hW K h g S).set 2 (g 12, .inl (K 0, 9, .inl (upd (S.2 12) i v))) = hW K h g (sA S 12 i v) := rfl
theorem sA_13 (K : Nat → ClassId) (h : Nat) (g : Nat → Nat) (S : HS) (i : Nat) (v : Int32) : (hW K h g S).set 3 (g 13, .inl (K 1, 90, .inl (upd (S.2 13) i v))) = hW K h g (sA S 13 i v) := rfl
theorem sA_14 (K : Nat → ClassId) (h : Nat) (g : Nat → Nat) (S : HS) (i : Nat) (v : Int32) : (hW K h g S).set 4 (g 14, .inl (K 0, 90, .inl (upd (S.2 14) i v))) = hW K h g (sA S 14 i v) := rfl
theorem sA_15 (K : Nat → ClassId) (h : Nat) (g : Nat → Nat) (S : HS) (i : Nat) (v : Int32) : (hW K h g S).set 5 (g 15, .inl (K 0, 90, .inl (upd (S.2 15) i v))) = hW K h g (sA S 15 i v) := rfl
theorem sA_16 (K : Nat → ClassId) (h : Nat) (g : Nat → Nat) (S : HS) (i : Nat) (v : Int32) : (hW K h g S).set 6 (g 16, .inl (K 0, 90, .inl (upd (S.2 16) i v))) = hW K h g (sA S 16 i v) := rfl
theorem sA_17 (K : Nat → ClassId) (h : Nat) (g : Nat → Nat) (S : HS) (i : Nat) (v : Int32) : (hW K h g S).set 7 (g 17, .inl (K 0, 90, .inl (upd (S.2 17) i v))) = hW K h g (sA S 17 i v) := rfl
theorem sA_18 (K : Nat → ClassId) (h : Nat) (g : Nat → Nat) (S : HS) (i : Nat) (v : Int32) : (hW K h g S).set 8 (g 18, .inl (K 0, 90, .inl (upd (S.2 18) i v))) = hW K h g (sA S 18 i v) := rfl
theorem sA_19 (K : Nat → ClassId) (h : Nat) (g : Nat → Nat) (S : HS) (i : Nat) (v : Int32) : (hW K h g S).set 9 (g 19, .inl (K 0, 90, .inl (upd (S.2 19) i v))) = hW K h g (sA S 19 i v) := rfl
theorem sA_20 (K : Nat → ClassId) (h : Nat) (g : Nat → Nat) (S : HS) (i : Nat) (v : Int32) : (hW K h g S).set 10 (g 20, .inl (K 0, 90, .inl (upd (S.2 20) i v))) = hW K h g (sA S 20 i v) := rfl
theorem sA_21 (K : Nat → ClassId) (h : Nat) (g : Nat → Nat) (S : HS) (i : Nat) (v : Int32) : (hW K h g S).set 11 (g 21, .inl (K 0, 90, .inl (upd (S.2 21) i v))) = hW K h g (sA S 21 i v) := rfl
theorem sA_22 (K : Nat → ClassId) (h : Nat) (g : Nat → Nat) (S : HS) (i : Nat) (v : Int32) : (hW K h g S).set 12 (g 22, .inl (K 0, 90, .inl (upd (S.2 22) i v))) = hW K h g (sA S 22 i v) := rfl
theorem sA_23 (K : Nat → ClassId) (h : Nat) (g : Nat → Nat) (S : HS) (i : Nat) (v : Int32) : (hW K h g S).set 13 (g 23, .inl (K 0, 90, .inl (upd (S.2 23) i v))) = hW K h g (sA S 23 i v) := rfl
theorem sA_24 (K : Nat → ClassId) (h : Nat) (g : Nat → Nat) (S : HS) (i : Nat) (v : Int32) : (hW K h g S).set 14 (g 24, .inl (K 1, 90, .inl (upd (S.2 24) i v))) = hW K h g (sA S 24 i v) := rfl
theorem sA_25 (K : Nat → ClassId) (h : Nat) (g : Nat → Nat) (S : HS) (i : Nat) (v : Int32) : (hW K h g S).set 15 (g 25, .inl (K 1, 90, .inl (upd (S.2 25) i v))) = hW K h g (sA S 25 i v) := rfl
theorem sA_26 (K : Nat → ClassId) (h : Nat) (g : Nat → Nat) (S : HS) (i : Nat) (v : Int32) : (hW K h g S).set 16 (g 26, .inl (K 1, 90, .inl (upd (S.2 26) i v))) = hW K h g (sA S 26 i v) := rfl
theorem sA_27 (K : Nat → ClassId) (h : Nat) (g : Nat → Nat) (S : HS) (i : Nat) (v : Int32) : (hW K h g S).set 17 (g 27, .inl (K 1, 90, .inl (upd (S.2 27) i v))) = hW K h g (sA S 27 i v) := rfl
theorem sA_28 (K : Nat → ClassId) (h : Nat) (g : Nat → Nat) (S : HS) (i : Nat) (v : Int32) : (hW K h g S).set 18 (g 28, .inl (K 0, 36000, .inl (upd (S.2 28) i v))) = hW K h g (sA S 28 i v) := rfl
theorem sA_29 (K : Nat → ClassId) (h : Nat) (g : Nat → Nat) (S : HS) (i : Nat) (v : Int32) : (hW K h g S).set 19 (g 29, .inl (K 2, 18000, .inl (upd (S.2 29) i v))) = hW K h g (sA S 29 i v) := rfl
theorem sA_31 (K : Nat → ClassId) (h : Nat) (g : Nat → Nat) (S : HS) (i : Nat) (v : Int32) : (hW K h g S).set 20 (g 31, .inl (K 0, 9, .inl (upd (S.2 31) i v))) = hW K h g (sA S 31 i v) := rfl
theorem sA_32 (K : Nat → ClassId) (h : Nat) (g : Nat → Nat) (S : HS) (i : Nat) (v : Int32) : (hW K h g S).set 21 (g 32, .inl (K 0, 9, .inl (upd (S.2 32) i v))) = hW K h g (sA S 32 i v) := rfl
theorem sA_33 (K : Nat → ClassId) (h : Nat) (g : Nat → Nat) (S : HS) (i : Nat) (v : Int32) : (hW K h g S).set 22 (g 33, .inl (K 0, 72, .inl (upd (S.2 33) i v))) = hW K h g (sA S 33 i v) := rfl
theorem sA_34 (K : Nat → ClassId) (h : Nat) (g : Nat → Nat) (S : HS) (i : Nat) (v : Int32) : (hW K h g S).set 23 (g 34, .inl (K 0, 8, .inl (upd (S.2 34) i v))) = hW K h g (sA S 34 i v) := rfl
theorem sA_37 (K : Nat → ClassId) (h : Nat) (g : Nat → Nat) (S : HS) (i : Nat) (v : Int32) : (hW K h g S).set 24 (g 37, .inl (K 1, 8, .inl (upd (S.2 37) i v))) = hW K h g (sA S 37 i v) := rfl
theorem sA_38 (K : Nat → ClassId) (h : Nat) (g : Nat → Nat) (S : HS) (i : Nat) (v : Int32) : (hW K h g S).set 25 (g 38, .inl (K 0, 400, .inl (upd (S.2 38) i v))) = hW K h g (sA S 38 i v) := rfl
theorem sA_40 (K : Nat → ClassId) (h : Nat) (g : Nat → Nat) (S : HS) (i : Nat) (v : Int32) : (hW K h g S).set 26 (g 40, .inl (K 0, 3600, .inl (upd (S.2 40) i v))) = hW K h g (sA S 40 i v) := rfl
theorem sA_41 (K : Nat → ClassId) (h : Nat) (g : Nat → Nat) (S : HS) (i : Nat) (v : Int32) : (hW K h g S).set 27 (g 41, .inl (K 0, 3000, .inl (upd (S.2 41) i v))) = hW K h g (sA S 41 i v) := rfl
/-- a start, an end over a Hall -/
def hS (G : va_G) (K : Nat → ClassId) (h : Nat) (g : Nat → Nat) (sz : Nat) (S : HS) (P : Prop) (U : State) : Prop := wS G K sz (hW K h g S) U ∧ P
def hB (G : va_G) (K : Nat → ClassId) (h : Nat) (g : Nat → Nat) (A : Nat → Prop) (u : HS) (t : State) : Prop := wB G A (hW K h g u) t
theorem hFB {G : va_G} {K : Nat → ClassId} {h : Nat} {g : Nat → Nat} {sz : Nat} {S : HS} {P : Prop} {av : List Value} : FrameBlind (va_Pc av (hS G K h g sz S P)) := fun a U g' mk q => ⟨q.1, (wFB (av := av) a U g' mk ⟨q.1, q.2.1⟩).2, q.2.2⟩
theorem hPV {G : va_G} {K : Nat → ClassId} {h : Nat} {g : Nat → Nat} {S : HS} {P : Prop} {H : Heap} {s : State} {As : List Value} {A : Nat → Prop} (hK : va_K G vwCl (wTY K) s) (hE : wE s) (hP : va_P G vwCl (hW K h g S) H) (hD : va_D A (hW K h g S)) (p : P) : PreV s H RX11 h (va_Pc (.ref h :: As) (hS G K h g H.size S P)) As :=
  ⟨hFB, va_recv hK hP (ci := 8) (q0 := 0) rfl rfl, fun U hU hW' => ⟨rfl, (((wPS (av := []) hK hE hP hD).2 U hU hW').2), p⟩⟩
/-- a method of numbers alone -/
def nS (G : va_G) (K : Nat → ClassId) (sz : Nat) (P : Prop) (U : State) : Prop := wS G K sz [] U ∧ P
theorem nFB {G : va_G} {K : Nat → ClassId} {sz : Nat} {P : Prop} {av : List Value} : FrameBlind (va_Pc av (nS G K sz P)) := fun a U g' mk q => ⟨q.1, (wFB (av := av) a U g' mk ⟨q.1, q.2.1⟩).2, q.2.2⟩
theorem nPS {G : va_G} {K : Nat → ClassId} {P : Prop} {H : Heap} {s : State} {As : List Value} (hK : va_K G vwCl (wTY K) s) (hE : wE s) (p : P) : PreS s H (va_Pc As (nS G K H.size P)) As :=
  ⟨nFB, fun U hU hW' => ⟨rfl, ((wPS (av := []) (wc := []) (A := fun _ => True) hK hE (fun k q h => by simp at h) ⟨fun i j p q h => by simp at h, fun k q h => by simp at h⟩).2 U hU hW').2, p⟩⟩
section W3
variable {p : Program} {l : Launch} {e : Env} {R : Room} {s : State} {m : MethodId} {args : Array Value} {below : List Frame} {meth : Method} {c : Code} {H : Heap} {locs : List Loc} {cells slots : Nat} {Q : State → Prop}
variable {pc : Nat} {ls : Array Slot} {rest st0 : List Value} {a : Array Value} {A0 : Nat → Prop} {mc ms : Nat} {G : va_G} {ws : va_W} {K : Nat → ClassId} {h : Nat} {g : Nat → Nat}
theorem hGoi {S : HS} {post : Int32 → HS → Prop} (hr : va_Run p l e R s m args below meth c H locs cells slots mc ms (F0 m pc ls st0) rest (va_Qi post (hB G K h g (va_A (hW K h g S) H.size)) (va_A (hW K h g S) H.size) a) (va_A (hW K h g S) H.size)) (hP : va_P G vwCl (hW K h g S) H) (hD : va_D A0 (hW K h g S)) (hS : va_S A0 s.heap H locs) (hA : ∀ q, s.heap.size ≤ q → A0 q)
    (kk : ∀ (r : Int32) (u : HS) (H1 : Heap) (locs1 : List Loc), post r u → va_P G vwCl (hW K h g u) H1 → va_D A0 (hW K h g u) → va_S A0 s.heap H1 locs1 → W p l e R s m args below meth c H1 locs1 (cells + mc) (slots + ms) Q (F0 m (pc + 3) ls (.int r :: rest))) : W p l e R s m args below meth c H locs cells slots Q (F0 m pc ls st0) := by
  have hF : ∀ q, va_A (hW K h g S) H.size q → A0 q := fun q hq => by
    rcases hq with ⟨k, e', h1⟩ | h1
    · exact hD.2 k (q, e') h1
    · exact hA q (Nat.le_trans hS.1 h1)
  refine va_calli hr hS (fun q _ h => hF q h) hF (fun r u t H1 locs1 ht _ hw hB' _ _ hS1 => ?_)
  obtain ⟨hP1, hD1⟩ := hB'
  rw [ht] at hP1
  exact kk r u H1 locs1 hw hP1 (hD1.weaken (fun k q _ h => hF q.1 h)) hS1
theorem hGov {S : HS} {post : HS → Prop} (hr : va_Run p l e R s m args below meth c H locs cells slots mc ms (F0 m pc ls st0) rest (va_Qv post (hB G K h g (va_A (hW K h g S) H.size)) (va_A (hW K h g S) H.size) a) (va_A (hW K h g S) H.size)) (hP : va_P G vwCl (hW K h g S) H) (hD : va_D A0 (hW K h g S)) (hS : va_S A0 s.heap H locs) (hA : ∀ q, s.heap.size ≤ q → A0 q)
    (kk : ∀ (u : HS) (H1 : Heap) (locs1 : List Loc), post u → va_P G vwCl (hW K h g u) H1 → va_D A0 (hW K h g u) → va_S A0 s.heap H1 locs1 → W p l e R s m args below meth c H1 locs1 (cells + mc) (slots + ms) Q (F0 m (pc + 3) ls rest)) : W p l e R s m args below meth c H locs cells slots Q (F0 m pc ls st0) := by
  have hF : ∀ q, va_A (hW K h g S) H.size q → A0 q := fun q hq => by
    rcases hq with ⟨k, e', h1⟩ | h1
    · exact hD.2 k (q, e') h1
    · exact hA q (Nat.le_trans hS.1 h1)
  refine va_callv hr hS (fun q _ h => hF q h) hF (fun u t H1 locs1 ht _ hw hB' _ _ hS1 => ?_)
  obtain ⟨hP1, hD1⟩ := hB'
  rw [ht] at hP1
  exact kk u H1 locs1 hw hP1 (hD1.weaken (fun k q _ h => hF q.1 h)) hS1
theorem nGoi {post : Int32 → Unit → Prop} (hr : va_Run p l e R s m args below meth c H locs cells slots mc ms (F0 m pc ls st0) rest (va_Qi post (fun _ _ => True) (va_A [] H.size) a) (va_A [] H.size)) (hP : va_P G vwCl ws H) (hS : va_S A0 s.heap H locs) (hA : ∀ q, s.heap.size ≤ q → A0 q)
    (kk : ∀ (r : Int32) (H1 : Heap) (locs1 : List Loc), post r () → va_P G vwCl ws H1 → va_S A0 s.heap H1 locs1 → W p l e R s m args below meth c H1 locs1 (cells + mc) (slots + ms) Q (F0 m (pc + 3) ls (.int r :: rest))) : W p l e R s m args below meth c H locs cells slots Q (F0 m pc ls st0) := by
  have hF : ∀ q, va_A [] H.size q → A0 q := fun q hq => by
    rcases hq with ⟨k, e', h1⟩ | h1
    · simp at h1
    · exact hA q (Nat.le_trans hS.1 h1)
  refine va_calli hr hS (fun q _ h => hF q h) hF (fun r u t H1 locs1 ht _ hw _ _ hk hS1 => ?_)
  refine kk r H1 locs1 hw (hP.kept (fun k q hq => hk q.1 ((hP k q hq).lt) (fun h => ?_))) hS1
  rcases h with ⟨k2, e', h1⟩ | h1
  · simp at h1
  · exact absurd ((hP k q hq).lt) (Nat.not_lt.mpr h1)
end W3
