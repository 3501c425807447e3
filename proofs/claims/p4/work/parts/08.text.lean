def teF (g : Nat → Nat) (S : HS) : List Value := [.ref (g 0), .int (S.1 1)]
def teW (K : Nat → ClassId) (h : Nat) (g : Nat → Nat) (S : HS) : va_W := [(h, .inr (6, teF g S)), (g 0, .inl (K 0, 400, .inl (S.2 0)))]
theorem teI_1 (K : Nat → ClassId) (h : Nat) (g : Nat → Nat) (S : HS) (v : Int32) : (teW K h g S).set 0 (h, .inr (6, (teF g S).set 1 (.int v))) = teW K h g (sI S 1 v) := rfl
theorem teA_0 (K : Nat → ClassId) (h : Nat) (g : Nat → Nat) (S : HS) (i : Nat) (v : Int32) : (teW K h g S).set 1 (g 0, .inl (K 0, 400, .inl (upd (S.2 0) i v))) = teW K h g (sA S 0 i v) := rfl
/-- a start, an end over a Hall -/
def teS (G : va_G) (K : Nat → ClassId) (h : Nat) (g : Nat → Nat) (sz : Nat) (S : HS) (P : Prop) (U : State) : Prop := wS G K sz (teW K h g S) U ∧ P
def teB (G : va_G) (K : Nat → ClassId) (h : Nat) (g : Nat → Nat) (A : Nat → Prop) (u : HS) (t : State) : Prop := wB G A (teW K h g u) t
theorem teFB {G : va_G} {K : Nat → ClassId} {h : Nat} {g : Nat → Nat} {sz : Nat} {S : HS} {P : Prop} {av : List Value} : FrameBlind (va_Pc av (teS G K h g sz S P)) := fun a U g' mk q => ⟨q.1, (wFB (av := av) a U g' mk ⟨q.1, q.2.1⟩).2, q.2.2⟩
theorem tePV {G : va_G} {K : Nat → ClassId} {h : Nat} {g : Nat → Nat} {S : HS} {P : Prop} {H : Heap} {s : State} {As : List Value} {A : Nat → Prop} (hK : va_K G vwCl (wTY K) s) (hE : wE s) (hP : va_P G vwCl (teW K h g S) H) (hD : va_D A (teW K h g S)) (p : P) : PreV s H RX9 h (va_Pc (.ref h :: As) (teS G K h g H.size S P)) As :=
  ⟨teFB, va_recv hK hP (ci := 6) (q0 := 0) rfl rfl, fun U hU hW' => ⟨rfl, (((wPS (av := []) hK hE hP hD).2 U hU hW').2), p⟩⟩
section W3te
variable {p : Program} {l : Launch} {e : Env} {R : Room} {s : State} {m : MethodId} {args : Array Value} {below : List Frame} {meth : Method} {c : Code} {H : Heap} {locs : List Loc} {cells slots : Nat} {Q : State → Prop}
variable {pc : Nat} {ls : Array Slot} {rest st0 : List Value} {a : Array Value} {A0 : Nat → Prop} {mc ms : Nat} {G : va_G} {ws : va_W} {K : Nat → ClassId} {h : Nat} {g : Nat → Nat}
theorem teGoi {S : HS} {post : Int32 → HS → Prop} (hr : va_Run p l e R s m args below meth c H locs cells slots mc ms (F0 m pc ls st0) rest (va_Qi post (teB G K h g (va_A (teW K h g S) H.size)) (va_A (teW K h g S) H.size) a) (va_A (teW K h g S) H.size)) (hP : va_P G vwCl (teW K h g S) H) (hD : va_D A0 (teW K h g S)) (hS : va_S A0 s.heap H locs) (hA : ∀ q, s.heap.size ≤ q → A0 q)
    (kk : ∀ (r : Int32) (u : HS) (H1 : Heap) (locs1 : List Loc), post r u → va_P G vwCl (teW K h g u) H1 → va_D A0 (teW K h g u) → va_S A0 s.heap H1 locs1 → W p l e R s m args below meth c H1 locs1 (cells + mc) (slots + ms) Q (F0 m (pc + 3) ls (.int r :: rest))) : W p l e R s m args below meth c H locs cells slots Q (F0 m pc ls st0) := by
  have hz : ∀ q, va_A (teW K h g S) H.size q → A0 q := fun q hq => by
    rcases hq with ⟨k, e', h1⟩ | h1
    · exact hD.2 k (q, e') h1
    · exact hA q (Nat.le_trans hS.1 h1)
  refine va_calli hr hS (fun q _ h => hz q h) hz (fun r u t H1 locs1 ht _ hw hB' _ _ hS1 => ?_)
  obtain ⟨hP1, hD1⟩ := hB'
  rw [ht] at hP1
  exact kk r u H1 locs1 hw hP1 (hD1.weaken (fun k q _ h => hz q.1 h)) hS1
theorem teGov {S : HS} {post : HS → Prop} (hr : va_Run p l e R s m args below meth c H locs cells slots mc ms (F0 m pc ls st0) rest (va_Qv post (teB G K h g (va_A (teW K h g S) H.size)) (va_A (teW K h g S) H.size) a) (va_A (teW K h g S) H.size)) (hP : va_P G vwCl (teW K h g S) H) (hD : va_D A0 (teW K h g S)) (hS : va_S A0 s.heap H locs) (hA : ∀ q, s.heap.size ≤ q → A0 q)
    (kk : ∀ (u : HS) (H1 : Heap) (locs1 : List Loc), post u → va_P G vwCl (teW K h g u) H1 → va_D A0 (teW K h g u) → va_S A0 s.heap H1 locs1 → W p l e R s m args below meth c H1 locs1 (cells + mc) (slots + ms) Q (F0 m (pc + 3) ls rest)) : W p l e R s m args below meth c H locs cells slots Q (F0 m pc ls st0) := by
  have hz : ∀ q, va_A (teW K h g S) H.size q → A0 q := fun q hq => by
    rcases hq with ⟨k, e', h1⟩ | h1
    · exact hD.2 k (q, e') h1
    · exact hA q (Nat.le_trans hS.1 h1)
  refine va_callv hr hS (fun q _ h => hz q h) hz (fun u t H1 locs1 ht _ hw hB' _ _ hS1 => ?_)
  obtain ⟨hP1, hD1⟩ := hB'
  rw [ht] at hP1
  exact kk u H1 locs1 hw hP1 (hD1.weaken (fun k q _ h => hz q.1 h)) hS1
end W3te
