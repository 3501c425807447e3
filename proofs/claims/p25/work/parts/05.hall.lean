section
/-! ===== the reference's Hall: its int fields and its arrays, by the places of the fields ===== -/
abbrev HS : Type := (Nat → Int32) × (Nat → Nat → Int32)
def sI (S : HS) (k : Nat) (v : Int32) : HS := (upd S.1 k v, S.2)
def sA (S : HS) (k i : Nat) (v : Int32) : HS := (S.1, fun j => if j = k then upd (S.2 k) i v else S.2 j)
def hF (g : Nat → Nat) (S : HS) : List Value := [.int (S.1 0), .int (S.1 1), .int (S.1 2), .int (S.1 3), .int (S.1 4), .int (S.1 5), .int (S.1 6), .int (S.1 7), .int (S.1 8), .int (S.1 9), .int (S.1 10), .ref (g 11), .ref (g 12), .ref (g 13), .ref (g 14), .ref (g 15), .ref (g 16), .ref (g 17), .ref (g 18), .ref (g 19), .ref (g 20), .ref (g 21), .ref (g 22), .ref (g 23), .ref (g 24), .ref (g 25), .ref (g 26), .ref (g 27), .ref (g 28), .ref (g 29), .int (S.1 30), .ref (g 31), .ref (g 32), .ref (g 33), .ref (g 34), .int (S.1 35), .int (S.1 36), .ref (g 37), .ref (g 38), .int (S.1 39), .ref (g 40), .ref (g 41)]
def hW (K : Nat → ClassId) (h : Nat) (g : Nat → Nat) (S : HS) : va_W := [(h, .inr (8, hF g S)), (g 11, .inl (K 1, 200, .inl (S.2 11))), (g 12, .inl (K 0, 9, .inl (S.2 12))), (g 13, .inl (K 1, 90, .inl (S.2 13))), (g 14, .inl (K 0, 90, .inl (S.2 14))), (g 15, .inl (K 0, 90, .inl (S.2 15))), (g 16, .inl (K 0, 90, .inl (S.2 16))), (g 17, .inl (K 0, 90, .inl (S.2 17))), (g 18, .inl (K 0, 90, .inl (S.2 18))), (g 19, .inl (K 0, 90, .inl (S.2 19))), (g 20, .inl (K 0, 90, .inl (S.2 20))), (g 21, .inl (K 0, 90, .inl (S.2 21))), (g 22, .inl (K 0, 90, .inl (S.2 22))), (g 23, .inl (K 0, 90, .inl (S.2 23))), (g 24, .inl (K 1, 90, .inl (S.2 24))), (g 25, .inl (K 1, 90, .inl (S.2 25))), (g 26, .inl (K 1, 90, .inl (S.2 26))), (g 27, .inl (K 1, 90, .inl (S.2 27))), (g 28, .inl (K 0, 36000, .inl (S.2 28))), (g 29, .inl (K 2, 18000, .inl (S.2 29))), (g 31, .inl (K 0, 9, .inl (S.2 31))), (g 32, .inl (K 0, 9, .inl (S.2 32))), (g 33, .inl (K 0, 72, .inl (S.2 33))), (g 34, .inl (K 0, 8, .inl (S.2 34))), (g 37, .inl (K 1, 8, .inl (S.2 37))), (g 38, .inl (K 0, 400, .inl (S.2 38))), (g 40, .inl (K 0, 3600, .inl (S.2 40))), (g 41, .inl (K 0, 3000, .inl (S.2 41)))]
theorem sI_0 (K : Nat → ClassId) (h : Nat) (g : Nat → Nat) (S : HS) (v : Int32) : (hW K h g S).set 0 (h, .inr (8, (hF g S).set 0 (.int v))) = hW K h g (sI S 0 v) := rfl
theorem sI_1 (K : Nat → ClassId) (h : Nat) (g : Nat → Nat) (S : HS) (v : Int32) : (hW K h g S).set 0 (h, .inr (8, (hF g S).set 1 (.int v))) = hW K h g (sI S 1 v) := rfl
theorem sI_2 (K : Nat → ClassId) (h : Nat) (g : Nat → Nat) (S : HS) (v : Int32) : (hW K h g S).set 0 (h, .inr (8, (hF g S).set 2 (.int v))) = hW K h g (sI S 2 v) := rfl
theorem sI_3 (K : Nat → ClassId) (h : Nat) (g : Nat → Nat) (S : HS) (v : Int32) : (hW K h g S).set 0 (h, .inr (8, (hF g S).set 3 (.int v))) = hW K h g (sI S 3 v) := rfl
theorem sI_4 (K : Nat → ClassId) (h : Nat) (g : Nat → Nat) (S : HS) (v : Int32) : (hW K h g S).set 0 (h, .inr (8, (hF g S).set 4 (.int v))) = hW K h g (sI S 4 v) := rfl
theorem sI_5 (K : Nat → ClassId) (h : Nat) (g : Nat → Nat) (S : HS) (v : Int32) : (hW K h g S).set 0 (h, .inr (8, (hF g S).set 5 (.int v))) = hW K h g (sI S 5 v) := rfl
theorem sI_6 (K : Nat → ClassId) (h : Nat) (g : Nat → Nat) (S : HS) (v : Int32) : (hW K h g S).set 0 (h, .inr (8, (hF g S).set 6 (.int v))) = hW K h g (sI S 6 v) := rfl
theorem sI_7 (K : Nat → ClassId) (h : Nat) (g : Nat → Nat) (S : HS) (v : Int32) : (hW K h g S).set 0 (h, .inr (8, (hF g S).set 7 (.int v))) = hW K h g (sI S 7 v) := rfl
theorem sI_8 (K : Nat → ClassId) (h : Nat) (g : Nat → Nat) (S : HS) (v : Int32) : (hW K h g S).set 0 (h, .inr (8, (hF g S).set 8 (.int v))) = hW K h g (sI S 8 v) := rfl
theorem sI_9 (K : Nat → ClassId) (h : Nat) (g : Nat → Nat) (S : HS) (v : Int32) : (hW K h g S).set 0 (h, .inr (8, (hF g S).set 9 (.int v))) = hW K h g (sI S 9 v) := rfl
theorem sI_10 (K : Nat → ClassId) (h : Nat) (g : Nat → Nat) (S : HS) (v : Int32) : (hW K h g S).set 0 (h, .inr (8, (hF g S).set 10 (.int v))) = hW K h g (sI S 10 v) := rfl
theorem sI_30 (K : Nat → ClassId) (h : Nat) (g : Nat → Nat) (S : HS) (v : Int32) : (hW K h g S).set 0 (h, .inr (8, (hF g S).set 30 (.int v))) = hW K h g (sI S 30 v) := rfl
theorem sI_35 (K : Nat → ClassId) (h : Nat) (g : Nat → Nat) (S : HS) (v : Int32) : (hW K h g S).set 0 (h, .inr (8, (hF g S).set 35 (.int v))) = hW K h g (sI S 35 v) := rfl
theorem sI_36 (K : Nat → ClassId) (h : Nat) (g : Nat → Nat) (S : HS) (v : Int32) : (hW K h g S).set 0 (h, .inr (8, (hF g S).set 36 (.int v))) = hW K h g (sI S 36 v) := rfl
theorem sI_39 (K : Nat → ClassId) (h : Nat) (g : Nat → Nat) (S : HS) (v : Int32) : (hW K h g S).set 0 (h, .inr (8, (hF g S).set 39 (.int v))) = hW K h g (sI S 39 v) := rfl
theorem sA_11 (K : Nat → ClassId) (h : Nat) (g : Nat → Nat) (S : HS) (i : Nat) (v : Int32) : (hW K h g S).set 1 (g 11, .inl (K 1, 200, .inl (upd (S.2 11) i v))) = hW K h g (sA S 11 i v) := rfl
theorem sA_12 (K : Nat → ClassId) (h : Nat) (g : Nat → Nat) (S : HS) (i : Nat) (v : Int32) : (hW K h g S).set 2 (g 12, .inl (K 0, 9, .inl (upd (S.2 12) i v))) = hW K h g (sA S 12 i v) := rfl
theorem sA_13 (K : Nat → ClassId) (h : Nat) (g : Nat → Nat) (S : HS) (i : Nat) (v : Int32) : (hW K h g S).set 3 (g 13, .inl (K 1, 90, .inl (upd (S.2 13) i v))) = hW K h g (sA S 13 i v) := rfl
theorem sA_14 (K : Nat → ClassId) (h : Nat) (g : Nat → Nat) (S : HS) (i : Nat) (v : Int32) : (hW K h g S).set 4 (g 14, .inl (K 0, 90, .inl (upd (S.2 14) i v))) = hW K h g (sA S 14 i v) := rfl
theorem sA_15 (K : Nat → ClassId) (h : Nat) (g : Nat → Nat) (S : HS) (i : Nat) (v : Int32) : (hW K h g S).set 5 (g 15, .inl (K 0, 90, .inl (upd (S.2 15) i v))) = hW K h g (sA S 15 i v) := rfl
theorem sA_16 (K : Nat → ClassId) (h : Nat) (g : Nat → Nat) (S : HS) (i : Nat) (v : Int32) : (hW K h g S).set 6 (g 16, .inl (K 0, 90, .inl (upd (S.2 16) i v))) = hW K h g (sA S 16 i v) := rfl
theorem sA_17 (K : Nat → ClassId) (h : Nat) (g : Nat → Nat) (S : HS) (i : Nat) (v : Int32) : (hW K h g S).set 7 (g 17, .inl (K 0, 90, .inl (upd (S.2 17) i v))) = hW K h g (sA S 17 i v) := rfl
theorem sA_18 (K : Nat → ClassId) (h : Nat) (g : Nat → Nat) (S : HS) (i : Nat) (v : Int32) : (hW K h g S).set 8 (g 18, .inl (K 0, 90, .inl (upd (S.2 18) i v))) = hW K h g (sA S 18 i v) := rfl
theorem sA_19 (K : Nat → ClassId) (h : Nat) (g : Nat → Nat) (S : HS) (i : Nat) (v : Int32) : (hW K h g S).set 9 (g 19, .inl (K 0, 90, .inl (upd (S.2 19) i v))) = hW K h g (sA S 19 i v) := rfl
theorem sA_20 (K : Nat → ClassId) (h : Nat) (g : Nat → Nat) (S : HS) (i : Nat) (v : Int32) : (hW K h g S).set 10 (g 20, .inl (K 0, 90, .inl (upd (S.2 20) i v))) = hW K h g (sA S 20 i v) := rfl
theorem sA_21 (K : Nat → ClassId) (h : Nat) (g : Nat → Nat) (S : HS) (i : Nat) (v : Int32) : (hW K h g S).set 11 (g 21, .inl (K 0, 90, .inl (upd (S.2 21) i v))) = hW K h g (sA S 21 i v) := rfl
theorem sA_22 (K : Nat → ClassId) (h : Nat) (g : Nat → Nat) (S : HS) (i : Nat) (v : Int32) : (hW K h g S).set 12 (g 22, .inl (K 0, 90, .inl (upd (S.2 22) i v))) = hW K h g (sA S 22 i v) := rfl
theorem sA_23 (K : Nat → ClassId) (h : Nat) (g : Nat → Nat) (S : HS) (i : Nat) (v : Int32) : (hW K h g S).set 13 (g 23, .inl (K 0, 90, .inl (upd (S.2 23) i v))) = hW K h g (sA S 23 i v) := rfl
theorem sA_24 (K : Nat → ClassId) (h : Nat) (g : Nat → Nat) (S : HS) (i : Nat) (v : Int32) : (hW K h g S).set 14 (g 24, .inl (K 1, 90, .inl (upd (S.2 24) i v))) = hW K h g (sA S 24 i v) := rfl
theorem sA_25 (K : Nat → ClassId) (h : Nat) (g : Nat → Nat) (S : HS) (i : Nat) (v : Int32) : (hW K h g S).set 15 (g 25, .inl (K 1, 90, .inl (upd (S.2 25) i v))) = hW K h g (sA S 25 i v) := rfl
theorem sA_26 (K : Nat → ClassId) (h : Nat) (g : Nat → Nat) (S : HS) (i : Nat) (v : Int32) : (hW K h g S).set 16 (g 26, .inl (K 1, 90, .inl (upd (S.2 26) i v))) = hW K h g (sA S 26 i v) := rfl
theorem sA_27 (K : Nat → ClassId) (h : Nat) (g : Nat → Nat) (S : HS) (i : Nat) (v : Int32) : (hW K h g S).set 17 (g 27, .inl (K 1, 90, .inl (upd (S.2 27) i v))) = hW K h g (sA S 27 i v) := rfl
theorem sA_28 (K : Nat → ClassId) (h : Nat) (g : Nat → Nat) (S : HS) (i : Nat) (v : Int32) : (hW K h g S).set 18 (g 28, .inl (K 0, 36000, .inl (upd (S.2 28) i v))) = hW K h g (sA S 28 i v) := rfl
theorem sA_29 (K : Nat → ClassId) (h : Nat) (g : Nat → Nat) (S : HS) (i : Nat) (v : Int32) : (hW K h g S).set 19 (g 29, .inl (K 2, 18000, .inl (upd (S.2 29) i v))) = hW K h g (sA S 29 i v) := rfl
theorem sA_31 (K : Nat → ClassId) (h : Nat) (g : Nat → Nat) (S : HS) (i : Nat) (v : Int32) : (hW K h g S).set 20 (g 31, .inl (K 0, 9, .inl (upd (S.2 31) i v))) = hW K h g (sA S 31 i v) := rfl
theorem sA_32 (K : Nat → ClassId) (h : Nat) (g : Nat → Nat) (S : HS) (i : Nat) (v : Int32) : (hW K h g S).set 21 (g 32, .inl (K 0, 9, .inl (upd (S.2 32) i v))) = hW K h g (sA S 32 i v) := rfl
theorem sA_33 (K : Nat → ClassId) (h : Nat) (g : Nat → Nat) (S : HS) (i : Nat) (v : Int32) : (hW K h g S).set 22 (g 33, .inl (K 0, 72, .inl (upd (S.2 33) i v))) = hW K h g (sA S 33 i v) := rfl
theorem sA_34 (K : Nat → ClassId) (h : Nat) (g : Nat → Nat) (S : HS) (i : Nat) (v : Int32) : (hW K h g S).set 23 (g 34, .inl (K 0, 8, .inl (upd (S.2 34) i v))) = hW K h g (sA S 34 i v) := rfl
theorem sA_37 (K : Nat → ClassId) (h : Nat) (g : Nat → Nat) (S : HS) (i : Nat) (v : Int32) : (hW K h g S).set 24 (g 37, .inl (K 1, 8, .inl (upd (S.2 37) i v))) = hW K h g (sA S 37 i v) := rfl
theorem sA_38 (K : Nat → ClassId) (h : Nat) (g : Nat → Nat) (S : HS) (i : Nat) (v : Int32) : (hW K h g S).set 25 (g 38, .inl (K 0, 400, .inl (upd (S.2 38) i v))) = hW K h g (sA S 38 i v) := rfl
theorem sA_40 (K : Nat → ClassId) (h : Nat) (g : Nat → Nat) (S : HS) (i : Nat) (v : Int32) : (hW K h g S).set 26 (g 40, .inl (K 0, 3600, .inl (upd (S.2 40) i v))) = hW K h g (sA S 40 i v) := rfl
theorem sA_41 (K : Nat → ClassId) (h : Nat) (g : Nat → Nat) (S : HS) (i : Nat) (v : Int32) : (hW K h g S).set 27 (g 41, .inl (K 0, 3000, .inl (upd (S.2 41) i v))) = hW K h g (sA S 41 i v) := rfl
/-- a start, an end over a Hall -/
def hS (G : va_G) (K : Nat → ClassId) (h : Nat) (g : Nat → Nat) (sz : Nat) (S : HS) (P : Prop) (U : State) : Prop := wS G K sz (hW K h g S) U ∧ P
def hB (G : va_G) (K : Nat → ClassId) (h : Nat) (g : Nat → Nat) (A : Nat → Prop) (u : HS) (t : State) : Prop := wB G A (hW K h g u) t
theorem hFB {G : va_G} {K : Nat → ClassId} {h : Nat} {g : Nat → Nat} {sz : Nat} {S : HS} {P : Prop} {av : List Value} : FrameBlind (va_Pc av (hS G K h g sz S P)) := fun a U g' mk q => ⟨q.1, (wFB (av := av) a U g' mk ⟨q.1, q.2.1⟩).2, q.2.2⟩
theorem hPV {G : va_G} {K : Nat → ClassId} {h : Nat} {g : Nat → Nat} {S : HS} {P : Prop} {H : Heap} {s : State} {As : List Value} {A : Nat → Prop} (hK : va_K G vwCl (wTY K) s) (hE : wE s) (hP : va_P G vwCl (hW K h g S) H) (hD : va_D A (hW K h g S)) (p : P) : PreV s H RX11 h (va_Pc (.ref h :: As) (hS G K h g H.size S P)) As :=
  ⟨hFB, va_recv hK hP (ci := 8) (q0 := 0) rfl rfl, fun U hU hW' => ⟨rfl, (((wPS (av := []) hK hE hP hD).2 U hU hW').2), p⟩⟩
/-- a method of numbers alone -/
def nS (G : va_G) (K : Nat → ClassId) (sz : Nat) (P : Prop) (U : State) : Prop := wS G K sz [] U ∧ P
theorem nFB {G : va_G} {K : Nat → ClassId} {sz : Nat} {P : Prop} {av : List Value} : FrameBlind (va_Pc av (nS G K sz P)) := fun a U g' mk q => ⟨q.1, (wFB (av := av) a U g' mk ⟨q.1, q.2.1⟩).2, q.2.2⟩
theorem nPS {G : va_G} {K : Nat → ClassId} {P : Prop} {H : Heap} {s : State} {As : List Value} (hK : va_K G vwCl (wTY K) s) (hE : wE s) (p : P) : PreS s H (va_Pc As (nS G K H.size P)) As :=
  ⟨nFB, fun U hU hW' => ⟨rfl, ((wPS (av := []) (wc := []) (A := fun _ => True) hK hE (fun k q h => by simp at h) ⟨fun i j p q h => by simp at h, fun k q h => by simp at h⟩).2 U hU hW').2, p⟩⟩
section W3
variable {p : Program} {l : Launch} {e : Env} {R : Room} {s : State} {m : MethodId} {args : Array Value} {below : List Frame} {meth : Method} {c : Code} {H : Heap} {locs : List Loc} {cells slots : Nat} {Q : State → Prop}
variable {pc : Nat} {ls : Array Slot} {rest st0 : List Value} {a : Array Value} {A0 : Nat → Prop} {mc ms : Nat} {G : va_G} {ws : va_W} {K : Nat → ClassId} {h : Nat} {g : Nat → Nat}
theorem hGoi {S : HS} {post : Int32 → HS → Prop} (hr : va_Run p l e R s m args below meth c H locs cells slots mc ms (F0 m pc ls st0) rest (va_Qi post (hB G K h g (va_A (hW K h g S) H.size)) (va_A (hW K h g S) H.size) a) (va_A (hW K h g S) H.size)) (hP : va_P G vwCl (hW K h g S) H) (hD : va_D A0 (hW K h g S)) (hS : va_S A0 s.heap H locs) (hA : ∀ q, s.heap.size ≤ q → A0 q)
    (kk : ∀ (r : Int32) (u : HS) (H1 : Heap) (locs1 : List Loc), post r u → va_P G vwCl (hW K h g u) H1 → va_D A0 (hW K h g u) → va_S A0 s.heap H1 locs1 → W p l e R s m args below meth c H1 locs1 (cells + mc) (slots + ms) Q (F0 m (pc + 3) ls (.int r :: rest))) : W p l e R s m args below meth c H locs cells slots Q (F0 m pc ls st0) := by
  have hF : ∀ q, va_A (hW K h g S) H.size q → A0 q := fun q hq => by
    rcases hq with ⟨k, e', h1⟩ | h1
    · exact hD.2 k (q, e') h1
    · exact hA q (Nat.le_trans hS.1 h1)
  refine va_calli hr hS (fun q _ h => hF q h) hF (fun r u t H1 locs1 ht _ hw hB' _ _ hS1 => ?_)
  obtain ⟨hP1, hD1⟩ := hB'
  rw [ht] at hP1
  exact kk r u H1 locs1 hw hP1 (hD1.weaken (fun k q _ h => hF q.1 h)) hS1
theorem hGov {S : HS} {post : HS → Prop} (hr : va_Run p l e R s m args below meth c H locs cells slots mc ms (F0 m pc ls st0) rest (va_Qv post (hB G K h g (va_A (hW K h g S) H.size)) (va_A (hW K h g S) H.size) a) (va_A (hW K h g S) H.size)) (hP : va_P G vwCl (hW K h g S) H) (hD : va_D A0 (hW K h g S)) (hS : va_S A0 s.heap H locs) (hA : ∀ q, s.heap.size ≤ q → A0 q)
    (kk : ∀ (u : HS) (H1 : Heap) (locs1 : List Loc), post u → va_P G vwCl (hW K h g u) H1 → va_D A0 (hW K h g u) → va_S A0 s.heap H1 locs1 → W p l e R s m args below meth c H1 locs1 (cells + mc) (slots + ms) Q (F0 m (pc + 3) ls rest)) : W p l e R s m args below meth c H locs cells slots Q (F0 m pc ls st0) := by
  have hF : ∀ q, va_A (hW K h g S) H.size q → A0 q := fun q hq => by
    rcases hq with ⟨k, e', h1⟩ | h1
    · exact hD.2 k (q, e') h1
    · exact hA q (Nat.le_trans hS.1 h1)
  refine va_callv hr hS (fun q _ h => hF q h) hF (fun u t H1 locs1 ht _ hw hB' _ _ hS1 => ?_)
  obtain ⟨hP1, hD1⟩ := hB'
  rw [ht] at hP1
  exact kk u H1 locs1 hw hP1 (hD1.weaken (fun k q _ h => hF q.1 h)) hS1
theorem nGoi {post : Int32 → Unit → Prop} (hr : va_Run p l e R s m args below meth c H locs cells slots mc ms (F0 m pc ls st0) rest (va_Qi post (fun _ _ => True) (va_A [] H.size) a) (va_A [] H.size)) (hP : va_P G vwCl ws H) (hS : va_S A0 s.heap H locs) (hA : ∀ q, s.heap.size ≤ q → A0 q)
    (kk : ∀ (r : Int32) (H1 : Heap) (locs1 : List Loc), post r () → va_P G vwCl ws H1 → va_S A0 s.heap H1 locs1 → W p l e R s m args below meth c H1 locs1 (cells + mc) (slots + ms) Q (F0 m (pc + 3) ls (.int r :: rest))) : W p l e R s m args below meth c H locs cells slots Q (F0 m pc ls st0) := by
  have hF : ∀ q, va_A [] H.size q → A0 q := fun q hq => by
    rcases hq with ⟨k, e', h1⟩ | h1
    · simp at h1
    · exact hA q (Nat.le_trans hS.1 h1)
  refine va_calli hr hS (fun q _ h => hF q h) hF (fun r u t H1 locs1 ht _ hw _ _ hk hS1 => ?_)
  refine kk r H1 locs1 hw (hP.kept (fun k q hq => hk q.1 ((hP k q hq).lt) (fun h => ?_))) hS1
  rcases h with ⟨k2, e', h1⟩ | h1
  · simp at h1
  · exact absurd ((hP k q hq).lt) (Nat.not_lt.mpr h1)
end W3
end
section
/-! ===== the reference: its own object, two Halls ===== -/
abbrev MS : Type := HS × HS × HS
def mO (M : MS) (s : HS) : MS := (s, M.2)
def mH (M : MS) (s : HS) : MS := (M.1, s, M.2.2)
def mS (M : MS) (s : HS) : MS := (M.1, M.2.1, s)
def oW (K : Nat → ClassId) (m0 : Nat) (gm : Nat → Nat) (h1 h2 : Nat) (S : HS) : va_W := [(m0, .inr (9, [.ref h1, .ref h2, .ref (gm 2), .ref (gm 3), .ref (gm 4), .ref (gm 5), .int (S.1 6)])), (gm 2, .inl (K 0, 2, .inl (S.2 2))), (gm 3, .inl (K 0, 2, .inl (S.2 3))), (gm 4, .inl (K 0, 7200, .inl (S.2 4))), (gm 5, .inl (K 0, 3600, .inl (S.2 5)))]
def mW (K : Nat → ClassId) (m0 : Nat) (gm : Nat → Nat) (h1 : Nat) (g1 : Nat → Nat) (h2 : Nat) (g2 : Nat → Nat) (M : MS) : va_W := oW K m0 gm h1 h2 M.1 ++ (hW K h1 g1 M.2.1 ++ hW K h2 g2 M.2.2)
theorem mI_o_6 (K : Nat → ClassId) (m0 : Nat) (gm : Nat → Nat) (h1 : Nat) (g1 : Nat → Nat) (h2 : Nat) (g2 : Nat → Nat) (M : MS) (v : Int32) : (mW K m0 gm h1 g1 h2 g2 M).set 0 (m0, .inr (9, [.ref h1, .ref h2, .ref (gm 2), .ref (gm 3), .ref (gm 4), .ref (gm 5), .int v])) = mW K m0 gm h1 g1 h2 g2 (mO M (sI M.1 6 v)) := rfl
theorem mA_o_2 (K : Nat → ClassId) (m0 : Nat) (gm : Nat → Nat) (h1 : Nat) (g1 : Nat → Nat) (h2 : Nat) (g2 : Nat → Nat) (M : MS) (i : Nat) (v : Int32) : (mW K m0 gm h1 g1 h2 g2 M).set 1 (gm 2, .inl (K 0, 2, .inl (upd (M.1.2 2) i v))) = mW K m0 gm h1 g1 h2 g2 (mO M (sA M.1 2 i v)) := rfl
theorem mA_o_3 (K : Nat → ClassId) (m0 : Nat) (gm : Nat → Nat) (h1 : Nat) (g1 : Nat → Nat) (h2 : Nat) (g2 : Nat → Nat) (M : MS) (i : Nat) (v : Int32) : (mW K m0 gm h1 g1 h2 g2 M).set 2 (gm 3, .inl (K 0, 2, .inl (upd (M.1.2 3) i v))) = mW K m0 gm h1 g1 h2 g2 (mO M (sA M.1 3 i v)) := rfl
theorem mA_o_4 (K : Nat → ClassId) (m0 : Nat) (gm : Nat → Nat) (h1 : Nat) (g1 : Nat → Nat) (h2 : Nat) (g2 : Nat → Nat) (M : MS) (i : Nat) (v : Int32) : (mW K m0 gm h1 g1 h2 g2 M).set 3 (gm 4, .inl (K 0, 7200, .inl (upd (M.1.2 4) i v))) = mW K m0 gm h1 g1 h2 g2 (mO M (sA M.1 4 i v)) := rfl
theorem mA_o_5 (K : Nat → ClassId) (m0 : Nat) (gm : Nat → Nat) (h1 : Nat) (g1 : Nat → Nat) (h2 : Nat) (g2 : Nat → Nat) (M : MS) (i : Nat) (v : Int32) : (mW K m0 gm h1 g1 h2 g2 M).set 4 (gm 5, .inl (K 0, 3600, .inl (upd (M.1.2 5) i v))) = mW K m0 gm h1 g1 h2 g2 (mO M (sA M.1 5 i v)) := rfl
theorem mI_h_10 (K : Nat → ClassId) (m0 : Nat) (gm : Nat → Nat) (h1 : Nat) (g1 : Nat → Nat) (h2 : Nat) (g2 : Nat → Nat) (M : MS) (v : Int32) : (mW K m0 gm h1 g1 h2 g2 M).set 5 (h1, .inr (8, (hF g1 M.2.1).set 10 (.int v))) = mW K m0 gm h1 g1 h2 g2 (mH M (sI M.2.1 10 v)) := rfl
theorem mI_s_10 (K : Nat → ClassId) (m0 : Nat) (gm : Nat → Nat) (h1 : Nat) (g1 : Nat → Nat) (h2 : Nat) (g2 : Nat → Nat) (M : MS) (v : Int32) : (mW K m0 gm h1 g1 h2 g2 M).set 33 (h2, .inr (8, (hF g2 M.2.2).set 10 (.int v))) = mW K m0 gm h1 g1 h2 g2 (mS M (sI M.2.2 10 v)) := rfl
/-- parts of a world that is laid end to end -/
theorem pL {G : va_G} {a b : va_W} {H : Heap} (h : va_P G vwCl (a ++ b) H) : va_P G vwCl a H := fun k q hk => h k q (by rw [List.getElem?_append_left (List.getElem?_eq_some_iff.mp hk).1]; exact hk)
theorem pR {G : va_G} {a b : va_W} {H : Heap} (h : va_P G vwCl (a ++ b) H) : va_P G vwCl b H := fun k q hk => h (a.length + k) q (by rw [List.getElem?_append_right (Nat.le_add_right _ _), Nat.add_sub_cancel_left]; exact hk)
theorem dL {A : Nat → Prop} {a b : va_W} (h : va_D A (a ++ b)) : va_D A a := by
  have key : ∀ (k : Nat) (q : Nat × va_E), a[k]? = some q → (a ++ b)[k]? = some q := fun k q hk => by
    rw [List.getElem?_append_left (List.getElem?_eq_some_iff.mp hk).1]; exact hk
  exact ⟨fun i j p q hi hj e => h.1 i j p q (key i p hi) (key j q hj) e, fun k q hk => h.2 k q (key k q hk)⟩
theorem dR {A : Nat → Prop} {a b : va_W} (h : va_D A (a ++ b)) : va_D A b := by
  have key : ∀ (k : Nat) (q : Nat × va_E), b[k]? = some q → (a ++ b)[a.length + k]? = some q := fun k q hk => by
    rw [List.getElem?_append_right (Nat.le_add_right _ _), Nat.add_sub_cancel_left]; exact hk
  exact ⟨fun i j p q hi hj e => Nat.add_left_cancel (h.1 _ _ p q (key i p hi) (key j q hj) e), fun k q hk => h.2 _ q (key k q hk)⟩
theorem fr3 {G : va_G} {A0 : Nat → Prop} {wa wc wb w1 : va_W} {H H1 : Heap} (hP : va_P G vwCl (wa ++ (wc ++ wb)) H) (hD : va_D A0 (wa ++ (wc ++ wb)))
    (hk : ∀ q : Nat, q < H.size → ¬ va_A wc H.size q → H1[q]? = H[q]?) (hF : ∀ q, va_A wc H.size q → A0 q) (hP1 : va_P G vwCl w1 H1) (hD1 : va_D (va_A wc H.size) w1) : va_P G vwCl (wa ++ (w1 ++ wb)) H1 ∧ va_D A0 (wa ++ (w1 ++ wb)) := by
  have inC : ∀ (k : Nat) (q : Nat × va_E), wc[k]? = some q → (wa ++ (wc ++ wb))[wa.length + k]? = some q := fun k q h => by
    rw [List.getElem?_append_right (Nat.le_add_right _ _), Nat.add_sub_cancel_left, List.getElem?_append_left (List.getElem?_eq_some_iff.mp h).1]; exact h
  have inA : ∀ (k : Nat) (q : Nat × va_E), wa[k]? = some q → (wa ++ (wc ++ wb))[k]? = some q := fun k q h => by
    rw [List.getElem?_append_left (List.getElem?_eq_some_iff.mp h).1]; exact h
  have inB : ∀ (k : Nat) (q : Nat × va_E), wb[k]? = some q → (wa ++ (wc ++ wb))[wa.length + (wc.length + k)]? = some q := fun k q h => by
    rw [List.getElem?_append_right (Nat.le_add_right _ _), Nat.add_sub_cancel_left, List.getElem?_append_right (Nat.le_add_right _ _), Nat.add_sub_cancel_left]; exact h
  have oA : ∀ (k : Nat) (q : Nat × va_E), wa[k]? = some q → q.1 < H.size ∧ ¬ va_A wc H.size q.1 := by
    intro k q h
    have hl := (hP _ q (inA k q h)).lt
    refine ⟨hl, fun hq => ?_⟩
    rcases hq with ⟨j, e', h2⟩ | h2
    · have := hD.1 _ _ q (q.1, e') (inA k q h) (inC j _ h2) rfl
      have hkl := (List.getElem?_eq_some_iff.mp h).1
      omega
    · omega
  have oB : ∀ (k : Nat) (q : Nat × va_E), wb[k]? = some q → q.1 < H.size ∧ ¬ va_A wc H.size q.1 := by
    intro k q h
    have hl := (hP _ q (inB k q h)).lt
    refine ⟨hl, fun hq => ?_⟩
    rcases hq with ⟨j, e', h2⟩ | h2
    · have := hD.1 _ _ q (q.1, e') (inB k q h) (inC j _ h2) rfl
      have hjl := (List.getElem?_eq_some_iff.mp h2).1
      omega
    · omega
  refine ⟨(((pL hP).kept (fun k q h => hk q.1 (oA k q h).1 (oA k q h).2)).app (hP1.app ((pR (pR hP)).kept (fun k q h => hk q.1 (oB k q h).1 (oB k q h).2)))), ?_⟩
  refine (dL hD).app ((hD1.weaken (fun k q _ h => hF q.1 h)).app (dR (dR hD)) (fun i j x y hx hy e' => (oB j y hy).2 (e' ▸ hD1.2 i x hx))) (fun i j x y hx hy e' => ?_)
  by_cases hj : j < w1.length
  · rw [List.getElem?_append_left hj] at hy
    exact (oA i x hx).2 (e'.symm ▸ hD1.2 j y hy)
  · rw [List.getElem?_append_right (Nat.not_lt.mp hj)] at hy
    have := hD.1 _ _ x y (inA i x hx) (inB _ y hy) e'
    have hil := (List.getElem?_eq_some_iff.mp hx).1
    omega
section W4
variable {p : Program} {l : Launch} {e : Env} {R : Room} {s : State} {m : MethodId} {args : Array Value} {below : List Frame} {meth : Method} {c : Code} {H : Heap} {locs : List Loc} {cells slots : Nat} {Q : State → Prop}
variable {pc : Nat} {ls : Array Slot} {rest st0 : List Value} {a : Array Value} {A0 : Nat → Prop} {mc ms : Nat} {G : va_G} {K : Nat → ClassId} {m0 h1 h2 : Nat} {gm g1 g2 : Nat → Nat} {M : MS}
def mSt (G : va_G) (K : Nat → ClassId) (m0 : Nat) (gm : Nat → Nat) (h1 : Nat) (g1 : Nat → Nat) (h2 : Nat) (g2 : Nat → Nat) (sz : Nat) (M : MS) (P : Prop) (U : State) : Prop := wS G K sz (mW K m0 gm h1 g1 h2 g2 M) U ∧ P
def mB (G : va_G) (K : Nat → ClassId) (m0 : Nat) (gm : Nat → Nat) (h1 : Nat) (g1 : Nat → Nat) (h2 : Nat) (g2 : Nat → Nat) (A : Nat → Prop) (u : MS) (t : State) : Prop := wB G A (mW K m0 gm h1 g1 h2 g2 u) t
theorem mP_h (hP : va_P G vwCl (mW K m0 gm h1 g1 h2 g2 M) H) : va_P G vwCl (hW K h1 g1 M.2.1) H := pL (pR hP)
theorem mP_s (hP : va_P G vwCl (mW K m0 gm h1 g1 h2 g2 M) H) : va_P G vwCl (hW K h2 g2 M.2.2) H := pR (pR hP)
theorem mD_h (hD : va_D A0 (mW K m0 gm h1 g1 h2 g2 M)) : va_D A0 (hW K h1 g1 M.2.1) := dL (dR hD)
theorem mD_s (hD : va_D A0 (mW K m0 gm h1 g1 h2 g2 M)) : va_D A0 (hW K h2 g2 M.2.2) := dR (dR hD)
theorem mFr_h {u : HS} {H1 : Heap} (hP : va_P G vwCl (mW K m0 gm h1 g1 h2 g2 M) H) (hD : va_D A0 (mW K m0 gm h1 g1 h2 g2 M)) (hk : ∀ q : Nat, q < H.size → ¬ va_A (hW K h1 g1 M.2.1) H.size q → H1[q]? = H[q]?) (hF : ∀ q, va_A (hW K h1 g1 M.2.1) H.size q → A0 q) (hP1 : va_P G vwCl (hW K h1 g1 u) H1) (hD1 : va_D (va_A (hW K h1 g1 M.2.1) H.size) (hW K h1 g1 u)) : va_P G vwCl (mW K m0 gm h1 g1 h2 g2 (mH M u)) H1 ∧ va_D A0 (mW K m0 gm h1 g1 h2 g2 (mH M u)) :=
  fr3 (wa := oW K m0 gm h1 h2 M.1) (wb := hW K h2 g2 M.2.2) hP hD hk hF hP1 hD1
theorem mFr_s {u : HS} {H1 : Heap} (hP : va_P G vwCl (mW K m0 gm h1 g1 h2 g2 M) H) (hD : va_D A0 (mW K m0 gm h1 g1 h2 g2 M)) (hk : ∀ q : Nat, q < H.size → ¬ va_A (hW K h2 g2 M.2.2) H.size q → H1[q]? = H[q]?) (hF : ∀ q, va_A (hW K h2 g2 M.2.2) H.size q → A0 q) (hP1 : va_P G vwCl (hW K h2 g2 u) H1) (hD1 : va_D (va_A (hW K h2 g2 M.2.2) H.size) (hW K h2 g2 u)) : va_P G vwCl (mW K m0 gm h1 g1 h2 g2 (mS M u)) H1 ∧ va_D A0 (mW K m0 gm h1 g1 h2 g2 (mS M u)) := by
  have e1 : ∀ v : HS, mW K m0 gm h1 g1 h2 g2 (mS M v) = (oW K m0 gm h1 h2 M.1 ++ hW K h1 g1 M.2.1) ++ (hW K h2 g2 v ++ []) := fun v => by
    rw [List.append_nil, List.append_assoc]; rfl
  have e2 : mW K m0 gm h1 g1 h2 g2 M = (oW K m0 gm h1 h2 M.1 ++ hW K h1 g1 M.2.1) ++ (hW K h2 g2 M.2.2 ++ []) := e1 M.2.2
  rw [e2] at hP hD
  rw [e1 u]
  exact fr3 hP hD hk hF hP1 hD1
theorem mGoi_h {post : Int32 → HS → Prop} (hr : va_Run p l e R s m args below meth c H locs cells slots mc ms (F0 m pc ls st0) rest (va_Qi post (hB G K h1 g1 (va_A (hW K h1 g1 M.2.1) H.size)) (va_A (hW K h1 g1 M.2.1) H.size) a) (va_A (hW K h1 g1 M.2.1) H.size)) (hP : va_P G vwCl (mW K m0 gm h1 g1 h2 g2 M) H) (hD : va_D A0 (mW K m0 gm h1 g1 h2 g2 M)) (hS : va_S A0 s.heap H locs) (hA : ∀ q, s.heap.size ≤ q → A0 q)
    (kk : ∀ (r : Int32) (u : HS) (H1 : Heap) (locs1 : List Loc), post r u → va_P G vwCl (mW K m0 gm h1 g1 h2 g2 (mH M u)) H1 → va_D A0 (mW K m0 gm h1 g1 h2 g2 (mH M u)) → va_S A0 s.heap H1 locs1 → W p l e R s m args below meth c H1 locs1 (cells + mc) (slots + ms) Q (F0 m (pc + 3) ls (.int r :: rest))) : W p l e R s m args below meth c H locs cells slots Q (F0 m pc ls st0) := by
  have hF : ∀ q, va_A (hW K h1 g1 M.2.1) H.size q → A0 q := fun q hq => by
    rcases hq with ⟨k, e', h1⟩ | h1
    · exact (mD_h hD).2 k (q, e') h1
    · exact hA q (Nat.le_trans hS.1 h1)
  refine va_calli hr hS (fun q _ h => hF q h) hF (fun r u t H1 locs1 ht _ hw hB' _ hk hS1 => ?_)
  obtain ⟨hP1, hD1⟩ := hB'
  rw [ht] at hP1
  obtain ⟨x1, x2⟩ := mFr_h hP hD hk hF hP1 hD1
  exact kk r u H1 locs1 hw x1 x2 hS1
theorem mGoi_s {post : Int32 → HS → Prop} (hr : va_Run p l e R s m args below meth c H locs cells slots mc ms (F0 m pc ls st0) rest (va_Qi post (hB G K h2 g2 (va_A (hW K h2 g2 M.2.2) H.size)) (va_A (hW K h2 g2 M.2.2) H.size) a) (va_A (hW K h2 g2 M.2.2) H.size)) (hP : va_P G vwCl (mW K m0 gm h1 g1 h2 g2 M) H) (hD : va_D A0 (mW K m0 gm h1 g1 h2 g2 M)) (hS : va_S A0 s.heap H locs) (hA : ∀ q, s.heap.size ≤ q → A0 q)
    (kk : ∀ (r : Int32) (u : HS) (H1 : Heap) (locs1 : List Loc), post r u → va_P G vwCl (mW K m0 gm h1 g1 h2 g2 (mS M u)) H1 → va_D A0 (mW K m0 gm h1 g1 h2 g2 (mS M u)) → va_S A0 s.heap H1 locs1 → W p l e R s m args below meth c H1 locs1 (cells + mc) (slots + ms) Q (F0 m (pc + 3) ls (.int r :: rest))) : W p l e R s m args below meth c H locs cells slots Q (F0 m pc ls st0) := by
  have hF : ∀ q, va_A (hW K h2 g2 M.2.2) H.size q → A0 q := fun q hq => by
    rcases hq with ⟨k, e', h1⟩ | h1
    · exact (mD_s hD).2 k (q, e') h1
    · exact hA q (Nat.le_trans hS.1 h1)
  refine va_calli hr hS (fun q _ h => hF q h) hF (fun r u t H1 locs1 ht _ hw hB' _ hk hS1 => ?_)
  obtain ⟨hP1, hD1⟩ := hB'
  rw [ht] at hP1
  obtain ⟨x1, x2⟩ := mFr_s hP hD hk hF hP1 hD1
  exact kk r u H1 locs1 hw x1 x2 hS1
theorem mGov_h {post : HS → Prop} (hr : va_Run p l e R s m args below meth c H locs cells slots mc ms (F0 m pc ls st0) rest (va_Qv post (hB G K h1 g1 (va_A (hW K h1 g1 M.2.1) H.size)) (va_A (hW K h1 g1 M.2.1) H.size) a) (va_A (hW K h1 g1 M.2.1) H.size)) (hP : va_P G vwCl (mW K m0 gm h1 g1 h2 g2 M) H) (hD : va_D A0 (mW K m0 gm h1 g1 h2 g2 M)) (hS : va_S A0 s.heap H locs) (hA : ∀ q, s.heap.size ≤ q → A0 q)
    (kk : ∀ (u : HS) (H1 : Heap) (locs1 : List Loc), post u → va_P G vwCl (mW K m0 gm h1 g1 h2 g2 (mH M u)) H1 → va_D A0 (mW K m0 gm h1 g1 h2 g2 (mH M u)) → va_S A0 s.heap H1 locs1 → W p l e R s m args below meth c H1 locs1 (cells + mc) (slots + ms) Q (F0 m (pc + 3) ls rest)) : W p l e R s m args below meth c H locs cells slots Q (F0 m pc ls st0) := by
  have hF : ∀ q, va_A (hW K h1 g1 M.2.1) H.size q → A0 q := fun q hq => by
    rcases hq with ⟨k, e', h1⟩ | h1
    · exact (mD_h hD).2 k (q, e') h1
    · exact hA q (Nat.le_trans hS.1 h1)
  refine va_callv hr hS (fun q _ h => hF q h) hF (fun u t H1 locs1 ht _ hw hB' _ hk hS1 => ?_)
  obtain ⟨hP1, hD1⟩ := hB'
  rw [ht] at hP1
  obtain ⟨x1, x2⟩ := mFr_h hP hD hk hF hP1 hD1
  exact kk u H1 locs1 hw x1 x2 hS1
theorem mGov_s {post : HS → Prop} (hr : va_Run p l e R s m args below meth c H locs cells slots mc ms (F0 m pc ls st0) rest (va_Qv post (hB G K h2 g2 (va_A (hW K h2 g2 M.2.2) H.size)) (va_A (hW K h2 g2 M.2.2) H.size) a) (va_A (hW K h2 g2 M.2.2) H.size)) (hP : va_P G vwCl (mW K m0 gm h1 g1 h2 g2 M) H) (hD : va_D A0 (mW K m0 gm h1 g1 h2 g2 M)) (hS : va_S A0 s.heap H locs) (hA : ∀ q, s.heap.size ≤ q → A0 q)
    (kk : ∀ (u : HS) (H1 : Heap) (locs1 : List Loc), post u → va_P G vwCl (mW K m0 gm h1 g1 h2 g2 (mS M u)) H1 → va_D A0 (mW K m0 gm h1 g1 h2 g2 (mS M u)) → va_S A0 s.heap H1 locs1 → W p l e R s m args below meth c H1 locs1 (cells + mc) (slots + ms) Q (F0 m (pc + 3) ls rest)) : W p l e R s m args below meth c H locs cells slots Q (F0 m pc ls st0) := by
  have hF : ∀ q, va_A (hW K h2 g2 M.2.2) H.size q → A0 q := fun q hq => by
    rcases hq with ⟨k, e', h1⟩ | h1
    · exact (mD_s hD).2 k (q, e') h1
    · exact hA q (Nat.le_trans hS.1 h1)
  refine va_callv hr hS (fun q _ h => hF q h) hF (fun u t H1 locs1 ht _ hw hB' _ hk hS1 => ?_)
  obtain ⟨hP1, hD1⟩ := hB'
  rw [ht] at hP1
  obtain ⟨x1, x2⟩ := mFr_s hP hD hk hF hP1 hD1
  exact kk u H1 locs1 hw x1 x2 hS1
end W4
end
section
def hoF (g : Nat → Nat) (S : HS) : List Value := [.int (S.1 0), .ref (g 1), .int (S.1 2), .int (S.1 3), .int (S.1 4), .int (S.1 5), .int (S.1 6), .ref (g 7)]
def hoW (K : Nat → ClassId) (h : Nat) (g : Nat → Nat) (S : HS) : va_W := [(h, .inr (1, hoF g S)), (g 1, .inl (K 1, 200, .inl (S.2 1))), (g 7, .inl (K 0, 9, .inl (S.2 7)))]
theorem hoI_0 (K : Nat → ClassId) (h : Nat) (g : Nat → Nat) (S : HS) (v : Int32) : (hoW K h g S).set 0 (h, .inr (1, (hoF g S).set 0 (.int v))) = hoW K h g (sI S 0 v) := rfl
theorem hoI_2 (K : Nat → ClassId) (h : Nat) (g : Nat → Nat) (S : HS) (v : Int32) : (hoW K h g S).set 0 (h, .inr (1, (hoF g S).set 2 (.int v))) = hoW K h g (sI S 2 v) := rfl
theorem hoI_3 (K : Nat → ClassId) (h : Nat) (g : Nat → Nat) (S : HS) (v : Int32) : (hoW K h g S).set 0 (h, .inr (1, (hoF g S).set 3 (.int v))) = hoW K h g (sI S 3 v) := rfl
theorem hoI_4 (K : Nat → ClassId) (h : Nat) (g : Nat → Nat) (S : HS) (v : Int32) : (hoW K h g S).set 0 (h, .inr (1, (hoF g S).set 4 (.int v))) = hoW K h g (sI S 4 v) := rfl
theorem hoI_5 (K : Nat → ClassId) (h : Nat) (g : Nat → Nat) (S : HS) (v : Int32) : (hoW K h g S).set 0 (h, .inr (1, (hoF g S).set 5 (.int v))) = hoW K h g (sI S 5 v) := rfl
theorem hoI_6 (K : Nat → ClassId) (h : Nat) (g : Nat → Nat) (S : HS) (v : Int32) : (hoW K h g S).set 0 (h, .inr (1, (hoF g S).set 6 (.int v))) = hoW K h g (sI S 6 v) := rfl
theorem hoA_1 (K : Nat → ClassId) (h : Nat) (g : Nat → Nat) (S : HS) (i : Nat) (v : Int32) : (hoW K h g S).set 1 (g 1, .inl (K 1, 200, .inl (upd (S.2 1) i v))) = hoW K h g (sA S 1 i v) := rfl
theorem hoA_7 (K : Nat → ClassId) (h : Nat) (g : Nat → Nat) (S : HS) (i : Nat) (v : Int32) : (hoW K h g S).set 2 (g 7, .inl (K 0, 9, .inl (upd (S.2 7) i v))) = hoW K h g (sA S 7 i v) := rfl
/-- a start, an end over a Hall -/
def hoS (G : va_G) (K : Nat → ClassId) (h : Nat) (g : Nat → Nat) (sz : Nat) (S : HS) (P : Prop) (U : State) : Prop := wS G K sz (hoW K h g S) U ∧ P
def hoB (G : va_G) (K : Nat → ClassId) (h : Nat) (g : Nat → Nat) (A : Nat → Prop) (u : HS) (t : State) : Prop := wB G A (hoW K h g u) t
theorem hoFB {G : va_G} {K : Nat → ClassId} {h : Nat} {g : Nat → Nat} {sz : Nat} {S : HS} {P : Prop} {av : List Value} : FrameBlind (va_Pc av (hoS G K h g sz S P)) := fun a U g' mk q => ⟨q.1, (wFB (av := av) a U g' mk ⟨q.1, q.2.1⟩).2, q.2.2⟩
theorem hoPV {G : va_G} {K : Nat → ClassId} {h : Nat} {g : Nat → Nat} {S : HS} {P : Prop} {H : Heap} {s : State} {As : List Value} {A : Nat → Prop} (hK : va_K G vwCl (wTY K) s) (hE : wE s) (hP : va_P G vwCl (hoW K h g S) H) (hD : va_D A (hoW K h g S)) (p : P) : PreV s H RX2 h (va_Pc (.ref h :: As) (hoS G K h g H.size S P)) As :=
  ⟨hoFB, va_recv hK hP (ci := 1) (q0 := 0) rfl rfl, fun U hU hW' => ⟨rfl, (((wPS (av := []) hK hE hP hD).2 U hU hW').2), p⟩⟩
section W3ho
variable {p : Program} {l : Launch} {e : Env} {R : Room} {s : State} {m : MethodId} {args : Array Value} {below : List Frame} {meth : Method} {c : Code} {H : Heap} {locs : List Loc} {cells slots : Nat} {Q : State → Prop}
variable {pc : Nat} {ls : Array Slot} {rest st0 : List Value} {a : Array Value} {A0 : Nat → Prop} {mc ms : Nat} {G : va_G} {ws : va_W} {K : Nat → ClassId} {h : Nat} {g : Nat → Nat}
theorem hoGoi {S : HS} {post : Int32 → HS → Prop} (hr : va_Run p l e R s m args below meth c H locs cells slots mc ms (F0 m pc ls st0) rest (va_Qi post (hoB G K h g (va_A (hoW K h g S) H.size)) (va_A (hoW K h g S) H.size) a) (va_A (hoW K h g S) H.size)) (hP : va_P G vwCl (hoW K h g S) H) (hD : va_D A0 (hoW K h g S)) (hS : va_S A0 s.heap H locs) (hA : ∀ q, s.heap.size ≤ q → A0 q)
    (kk : ∀ (r : Int32) (u : HS) (H1 : Heap) (locs1 : List Loc), post r u → va_P G vwCl (hoW K h g u) H1 → va_D A0 (hoW K h g u) → va_S A0 s.heap H1 locs1 → W p l e R s m args below meth c H1 locs1 (cells + mc) (slots + ms) Q (F0 m (pc + 3) ls (.int r :: rest))) : W p l e R s m args below meth c H locs cells slots Q (F0 m pc ls st0) := by
  have hz : ∀ q, va_A (hoW K h g S) H.size q → A0 q := fun q hq => by
    rcases hq with ⟨k, e', h1⟩ | h1
    · exact hD.2 k (q, e') h1
    · exact hA q (Nat.le_trans hS.1 h1)
  refine va_calli hr hS (fun q _ h => hz q h) hz (fun r u t H1 locs1 ht _ hw hB' _ _ hS1 => ?_)
  obtain ⟨hP1, hD1⟩ := hB'
  rw [ht] at hP1
  exact kk r u H1 locs1 hw hP1 (hD1.weaken (fun k q _ h => hz q.1 h)) hS1
theorem hoGov {S : HS} {post : HS → Prop} (hr : va_Run p l e R s m args below meth c H locs cells slots mc ms (F0 m pc ls st0) rest (va_Qv post (hoB G K h g (va_A (hoW K h g S) H.size)) (va_A (hoW K h g S) H.size) a) (va_A (hoW K h g S) H.size)) (hP : va_P G vwCl (hoW K h g S) H) (hD : va_D A0 (hoW K h g S)) (hS : va_S A0 s.heap H locs) (hA : ∀ q, s.heap.size ≤ q → A0 q)
    (kk : ∀ (u : HS) (H1 : Heap) (locs1 : List Loc), post u → va_P G vwCl (hoW K h g u) H1 → va_D A0 (hoW K h g u) → va_S A0 s.heap H1 locs1 → W p l e R s m args below meth c H1 locs1 (cells + mc) (slots + ms) Q (F0 m (pc + 3) ls rest)) : W p l e R s m args below meth c H locs cells slots Q (F0 m pc ls st0) := by
  have hz : ∀ q, va_A (hoW K h g S) H.size q → A0 q := fun q hq => by
    rcases hq with ⟨k, e', h1⟩ | h1
    · exact hD.2 k (q, e') h1
    · exact hA q (Nat.le_trans hS.1 h1)
  refine va_callv hr hS (fun q _ h => hz q h) hz (fun u t H1 locs1 ht _ hw hB' _ _ hS1 => ?_)
  obtain ⟨hP1, hD1⟩ := hB'
  rw [ht] at hP1
  exact kk u H1 locs1 hw hP1 (hD1.weaken (fun k q _ h => hz q.1 h)) hS1
end W3ho
end
section
def teF (g : Nat → Nat) (S : HS) : List Value := [.ref (g 0), .int (S.1 1)]
def teW (K : Nat → ClassId) (h : Nat) (g : Nat → Nat) (S : HS) : va_W := [(h, .inr (6, teF g S)), (g 0, .inl (K 0, 400, .inl (S.2 0)))]
theorem teI_1 (K : Nat → ClassId) (h : Nat) (g : Nat → Nat) (S : HS) (v : Int32) : (teW K h g S).set 0 (h, .inr (6, (teF g S).set 1 (.int v))) = teW K h g (sI S 1 v) := rfl
theorem teA_0 (K : Nat → ClassId) (h : Nat) (g : Nat → Nat) (S : HS) (i : Nat) (v : Int32) : (teW K h g S).set 1 (g 0, .inl (K 0, 400, .inl (upd (S.2 0) i v))) = teW K h g (sA S 0 i v) := rfl
/-- a start, an end over a Hall -/
def teS (G : va_G) (K : Nat → ClassId) (h : Nat) (g : Nat → Nat) (sz : Nat) (S : HS) (P : Prop) (U : State) : Prop := wS G K sz (teW K h g S) U ∧ P
def teB (G : va_G) (K : Nat → ClassId) (h : Nat) (g : Nat → Nat) (A : Nat → Prop) (u : HS) (t : State) : Prop := wB G A (teW K h g u) t
theorem teFB {G : va_G} {K : Nat → ClassId} {h : Nat} {g : Nat → Nat} {sz : Nat} {S : HS} {P : Prop} {av : List Value} : FrameBlind (va_Pc av (teS G K h g sz S P)) := fun a U g' mk q => ⟨q.1, (wFB (av := av) a U g' mk ⟨q.1, q.2.1⟩).2, q.2.2⟩
theorem tePV {G : va_G} {K : Nat → ClassId} {h : Nat} {g : Nat → Nat} {S : HS} {P : Prop} {H : Heap} {s : State} {As : List Value} {A : Nat → Prop} (hK : va_K G vwCl (wTY K) s) (hE : wE s) (hP : va_P G vwCl (teW K h g S) H) (hD : va_D A (teW K h g S)) (p : P) : PreV s H RX9 h (va_Pc (.ref h :: As) (teS G K h g H.size S P)) As :=
  ⟨teFB, va_recv hK hP (ci := 6) (q0 := 0) rfl rfl, fun U hU hW' => ⟨rfl, (((wPS (av := []) hK hE hP hD).2 U hU hW').2), p⟩⟩
section W3te
variable {p : Program} {l : Launch} {e : Env} {R : Room} {s : State} {m : MethodId} {args : Array Value} {below : List Frame} {meth : Method} {c : Code} {H : Heap} {locs : List Loc} {cells slots : Nat} {Q : State → Prop}
variable {pc : Nat} {ls : Array Slot} {rest st0 : List Value} {a : Array Value} {A0 : Nat → Prop} {mc ms : Nat} {G : va_G} {ws : va_W} {K : Nat → ClassId} {h : Nat} {g : Nat → Nat}
theorem teGoi {S : HS} {post : Int32 → HS → Prop} (hr : va_Run p l e R s m args below meth c H locs cells slots mc ms (F0 m pc ls st0) rest (va_Qi post (teB G K h g (va_A (teW K h g S) H.size)) (va_A (teW K h g S) H.size) a) (va_A (teW K h g S) H.size)) (hP : va_P G vwCl (teW K h g S) H) (hD : va_D A0 (teW K h g S)) (hS : va_S A0 s.heap H locs) (hA : ∀ q, s.heap.size ≤ q → A0 q)
    (kk : ∀ (r : Int32) (u : HS) (H1 : Heap) (locs1 : List Loc), post r u → va_P G vwCl (teW K h g u) H1 → va_D A0 (teW K h g u) → va_S A0 s.heap H1 locs1 → W p l e R s m args below meth c H1 locs1 (cells + mc) (slots + ms) Q (F0 m (pc + 3) ls (.int r :: rest))) : W p l e R s m args below meth c H locs cells slots Q (F0 m pc ls st0) := by
  have hz : ∀ q, va_A (teW K h g S) H.size q → A0 q := fun q hq => by
    rcases hq with ⟨k, e', h1⟩ | h1
    · exact hD.2 k (q, e') h1
    · exact hA q (Nat.le_trans hS.1 h1)
  refine va_calli hr hS (fun q _ h => hz q h) hz (fun r u t H1 locs1 ht _ hw hB' _ _ hS1 => ?_)
  obtain ⟨hP1, hD1⟩ := hB'
  rw [ht] at hP1
  exact kk r u H1 locs1 hw hP1 (hD1.weaken (fun k q _ h => hz q.1 h)) hS1
theorem teGov {S : HS} {post : HS → Prop} (hr : va_Run p l e R s m args below meth c H locs cells slots mc ms (F0 m pc ls st0) rest (va_Qv post (teB G K h g (va_A (teW K h g S) H.size)) (va_A (teW K h g S) H.size) a) (va_A (teW K h g S) H.size)) (hP : va_P G vwCl (teW K h g S) H) (hD : va_D A0 (teW K h g S)) (hS : va_S A0 s.heap H locs) (hA : ∀ q, s.heap.size ≤ q → A0 q)
    (kk : ∀ (u : HS) (H1 : Heap) (locs1 : List Loc), post u → va_P G vwCl (teW K h g u) H1 → va_D A0 (teW K h g u) → va_S A0 s.heap H1 locs1 → W p l e R s m args below meth c H1 locs1 (cells + mc) (slots + ms) Q (F0 m (pc + 3) ls rest)) : W p l e R s m args below meth c H locs cells slots Q (F0 m pc ls st0) := by
  have hz : ∀ q, va_A (teW K h g S) H.size q → A0 q := fun q hq => by
    rcases hq with ⟨k, e', h1⟩ | h1
    · exact hD.2 k (q, e') h1
    · exact hA q (Nat.le_trans hS.1 h1)
  refine va_callv hr hS (fun q _ h => hz q h) hz (fun u t H1 locs1 ht _ hw hB' _ _ hS1 => ?_)
  obtain ⟨hP1, hD1⟩ := hB'
  rw [ht] at hP1
  exact kk u H1 locs1 hw hP1 (hD1.weaken (fun k q _ h => hz q.1 h)) hS1
end W3te
end
