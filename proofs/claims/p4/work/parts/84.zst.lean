/-! ===== the class's own table (a static that nobody writes) ===== -/
def tabN (j : Nat) : Int32 := ([0, 1, 1, 1, 1, 2, 1, 1, 0, 1, 1, 2, 4, 1, 1, 1, 1, 2, 1, 0, 1, 0, 0] : List Int32).getD j 0
def zst (nt : Nat) (A : Nat → Prop) (U : State) (H : Heap) : Prop := va_Z "MotionFloor" "NUMBERS_OF_ACT" "[I" (.ref nt) A U H ∧ va_T .int nt 23 (fun j => .int (tabN j)) A U H
def zSt (nt : Nat) (G : va_G) (K : Nat → ClassId) (ad : Nat → Nat) (sz : Nat) (S : Cst) (P : Prop) (U : State) : Prop := cSt G K ad sz S P U ∧ zst nt (va_A (wsC K ad S) sz) U U.heap
theorem zFB {nt : Nat} {G : va_G} {K : Nat → ClassId} {ad : Nat → Nat} {sz : Nat} {S : Cst} {P : Prop} {av : List Value} : FrameBlind (va_Pc av (zSt nt G K ad sz S P)) := fun a U g' mk q => ⟨q.1, (cFB (av := av) a U g' mk ⟨q.1, q.2.1⟩).2, va_Z.moved (Vm.Alike.refl U.vm) q.2.2.1, va_T.moved (Vm.Alike.refl U.vm) q.2.2.2⟩
theorem zPV {nt : Nat} {G : va_G} {K : Nat → ClassId} {ad : Nat → Nat} {S : Cst} {P : Prop} {H : Heap} {s : State} {As : List Value} {A : Nat → Prop} {locs : List Loc} (hK : va_K G vwCl (wTY K) s) (hE : wE s) (hP : va_P G vwCl (wsC K ad S) H) (hD : va_D A (wsC K ad S)) (hN : zst nt A s s.heap) (hS : va_S A s.heap H locs) (hA : ∀ q, s.heap.size ≤ q → A q) (ci : Nat) {q0 b : Nat} {q : vw_C} {fs : List Value} (hc : vwCl[ci]? = some q) (he : (wsC K ad S)[q0]? = some (b, .inr (ci, fs))) (p : P) : PreV s H q.1 b (va_Pc (.ref b :: As) (zSt nt G K ad H.size S P)) As := by
  have hz : ∀ q, va_A (wsC K ad S) H.size q → A q := fun q hq => by
    rcases hq with ⟨k, e', h1⟩ | h1
    · exact hD.2 k (q, e') h1
    · exact hA q (Nat.le_trans hS.1 h1)
  refine ⟨zFB, va_recv hK hP hc he, fun U hU hW' => ⟨rfl, ((cPV (As := As) hK hE hP hD ci hc he p).2.2 U hU hW').2, ?_, ?_⟩⟩
  · rw [hU]
    exact va_Z.moved hW'.alike ((hN.1.kept hS.2.1).narrow hz)
  · rw [hU]
    exact va_T.moved hW'.alike ((hN.2.kept hS.2.1).narrow hz)
