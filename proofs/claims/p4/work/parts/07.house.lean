def hoF (g : Nat → Nat) (S : HS) : List Value := [.int (S.1 0), .ref (g 1), .int (S.1 2), .int (S.1 3), .int (S.1 4), .int (S.1 5), .int (S.1 6), .ref (g 7)]
def hoW (K : Nat → ClassId) (h : Nat) (g : Nat → Nat) (S : HS) : va_W := [(h, .inr (1, hoF g S)), (g 1, .inl (K 1, 200, .inl (S.2 1))), (g 7, .inl (K 0, 9, .inl (S.2 7)))]
theorem hoI_0 (K : Nat → ClassId) (h : Nat) (g : Nat → Nat) (S : HS) (v : Int32) : (hoW K h g S).set 0 (h, .inr (1, (hoF g S).set 0 (.int v))) = hoW K h g (sI S 0 v) := rfl
theorem hoI_2 (K : Nat → ClassId) (h : Nat) (g : Nat → Nat) (S : HS) (v : Int32) : (hoW K h g S).set 0 (h, .inr (1, (hoF g S).set 2 (.int v))) = hoW K h g (sI S 2 v) := rfl
theorem hoI_3 (K : Nat → ClassId) (h : Nat) (g : Nat → Nat) (S : HS) (v : Int32) : (hoW K h g S).set 0 (h, .inr (1, (hoF g S).set 3 (.int v))) = hoW K h g (sI S 3 v) := rfl
theorem hoI_4 (K : Nat → ClassId) (h : Nat) (g : Nat → Nat) (S : HS) (v : Int32) : (hoW K h g S).set 0 (h, .inr (1, (hoF g S).set 4 (.int v))) = hoW K h g (sI S 4 v) := rfl
theorem hoI_5 (K : Nat → ClassId) (h : Nat) (g : Nat → Nat) (S : HS) (v : Int32) : (hoW K h g S).set 0 (h, .inr (1, (hoF g S).set 5 (.int v))) = hoW K h g (sI S 5 v) := rfl
theorem hoI_6 (K : Nat → ClassId) (h : Nat) (g : Nat → Nat) (S : HS) (v : Int32) : (hoW K h g S).set 0 (h, .inr (1, (hoF g S).set 6 (.int v))) = hoW K h g (sI S 6 v) := rfl
theorem hoA_1 (K : Nat → ClassId) (h : Nat) (g : Nat → Nat) (S : HS) (i : Nat) (v : Int32) : (hoW K h g S).set 1 (g 1, .inl (K 1, 200, .inl (upd (S.2 1) i v))) = hoW K h g (sA S 1 i v) := rfl
theorem hoA_7 (K : Nat → ClassId) (h : Nat) (g : Nat → Nat) (S : HS) (i : Nat) (v : Int32) : (hoW K h g S).set 2 (g 7, .inl (K 0, 9, .inl (upd (S.2 7) i v))) = hoW K h g (sA S 7 i v) := rfl
/-- a start, an end over a Hall -/
def hoS (G : va_G) (K : Nat → ClassId) (h : Nat) (g : Nat → Nat) (sz : Nat) (S : HS) (P : Prop) (U : State) : Prop := wS G K sz (hoW K h g S) U ∧ P
def hoB (G : va_G) (K : Nat → ClassId) (h : Nat) (g : Nat → Nat) (A : Nat → Prop) (u : HS) (t : State) : Prop := wB G A (hoW K h g u) t
theorem hoFB {G : va_G} {K : Nat → ClassId} {h : Nat} {g : Nat → Nat} {sz : Nat} {S : HS} {P : Prop} {av : List Value} : FrameBlind (va_Pc av (hoS G K h g sz S P)) := fun a U g' mk q => ⟨q.1, (wFB (av := av) a U g' mk ⟨q.1, q.2.1⟩).2, q.2.2⟩
theorem hoPV {G : va_G} {K : Nat → ClassId} {h : Nat} {g : Nat → Nat} {S : HS} {P : Prop} {H : Heap} {s : State} {As : List Value} {A : Nat → Prop} (hK : va_K G vwCl (wTY K) s) (hE : wE s) (hP : va_P G vwCl (hoW K h g S) H) (hD : va_D A (hoW K h g S)) (p : P) : PreV s H RX2 h (va_Pc (.ref h :: As) (hoS G K h g H.size S P)) As :=
  ⟨hoFB, va_recv hK hP (ci := 1) (q0 := 0) rfl rfl, fun U hU hW' => ⟨rfl, (((wPS (av := []) hK hE hP hD).2 U hU hW').2), p⟩⟩
section W3ho
variable {p : Program} {l : Launch} {e : Env} {R : Room} {s : State} {m : MethodId} {args : Array Value} {below : List Frame} {meth : Method} {c : Code} {H : Heap} {locs : List Loc} {cells slots : Nat} {Q : State → Prop}
variable {pc : Nat} {ls : Array Slot} {rest st0 : List Value} {a : Array Value} {A0 : Nat → Prop} {mc ms : Nat} {G : va_G} {ws : va_W} {K : Nat → ClassId} {h : Nat} {g : Nat → Nat}
theorem hoGoi {S : HS} {post : Int32 → HS → Prop} (hr : va_Run p l e R s m args below meth c H locs cells slots mc ms (F0 m pc ls st0) rest (va_Qi post (hoB G K h g (va_A (hoW K h g S) H.size)) (va_A (hoW K h g S) H.size) a) (va_A (hoW K h g S) H.size)) (hP : va_P G vwCl (hoW K h g S) H) (hD : va_D A0 (hoW K h g S)) (hS : va_S A0 s.heap H locs) (hA : ∀ q, s.heap.size ≤ q → A0 q)
    (kk : ∀ (r : Int32) (u : HS) (H1 : Heap) (locs1 : List Loc), post r u → va_P G vwCl (hoW K h g u) H1 → va_D A0 (hoW K h g u) → va_S A0 s.heap H1 locs1 → W p l e R s m args below meth c H1 locs1 (cells + mc) (slots + ms) Q (F0 m (pc + 3) ls (.int r :: rest))) : W p l e R s m args below meth c H locs cells slots Q (F0 m pc ls st0) := by
  have hz : ∀ q, va_A (hoW K h g S) H.size q → A0 q := fun q hq => by
    rcases hq with ⟨k, e', h1⟩ | h1
    · exact hD.2 k (q, e') h1
    · exact hA q (Nat.le_trans hS.1 h1)
  refine va_calli hr hS (fun q _ h => hz q h) hz (fun r u t H1 locs1 ht _ hw hB' _ _ hS1 => ?_)
  obtain ⟨hP1, hD1⟩ := hB'
  rw [ht] at hP1
  exact kk r u H1 locs1 hw hP1 (hD1.weaken (fun k q _ h => hz q.1 h)) hS1
theorem hoGov {S : HS} {post : HS → Prop} (hr : va_Run p l e R s m args below meth c H locs cells slots mc ms (F0 m pc ls st0) rest (va_Qv post (hoB G K h g (va_A (hoW K h g S) H.size)) (va_A (hoW K h g S) H.size) a) (va_A (hoW K h g S) H.size)) (hP : va_P G vwCl (hoW K h g S) H) (hD : va_D A0 (hoW K h g S)) (hS : va_S A0 s.heap H locs) (hA : ∀ q, s.heap.size ≤ q → A0 q)
    (kk : ∀ (u : HS) (H1 : Heap) (locs1 : List Loc), post u → va_P G vwCl (hoW K h g u) H1 → va_D A0 (hoW K h g u) → va_S A0 s.heap H1 locs1 → W p l e R s m args below meth c H1 locs1 (cells + mc) (slots + ms) Q (F0 m (pc + 3) ls rest)) : W p l e R s m args below meth c H locs cells slots Q (F0 m pc ls st0) := by
  have hz : ∀ q, va_A (hoW K h g S) H.size q → A0 q := fun q hq => by
    rcases hq with ⟨k, e', h1⟩ | h1
    · exact hD.2 k (q, e') h1
    · exact hA q (Nat.le_trans hS.1 h1)
  refine va_callv hr hS (fun q _ h => hz q h) hz (fun u t H1 locs1 ht _ hw hB' _ _ hS1 => ?_)
  obtain ⟨hP1, hD1⟩ := hB'
  rw [ht] at hP1
  exact kk u H1 locs1 hw hP1 (hD1.weaken (fun k q _ h => hz q.1 h)) hS1
end W3ho
