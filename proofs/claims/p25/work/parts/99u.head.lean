/-! THE CLAIM OUT OF ONE WALK OF THE LAW'S BODY. Your part is whole_start (and what it stands on); all else here is the same for every law, but numbers. -/
def R_law : String := "MotionFloorLaw"
def lw_P (b : Addr) (xs : List Int32) (args : Array Value) (s : State) : Prop := args = #[.ref b] ∧ s.IntsAt b xs ∧ xs.length ≤ 3584 ∧ (Jvm.Cond.and given_1 narrow_1).before args s = true
def lw_Q (_ : Array Value) (s : State) (o : Outcome) (t : State) : Prop := o = .returned (some (.int 1)) ∧ Framed s o t [] 600000 7302249
def lw_Z (below : List Frame) (a : Array Value) (s : State) : State → Prop := fun t => ∃ o, t.status = .running ∧ Ended t below o ∧ lw_Q a s o t
/-- the law's own end, with 1 on the stack, nothing written that was there before, its room as the claim has it -/
theorem lw_ret {p : Program} {l : Launch} {e : Env} {s : State} {m : MethodId} {below : List Frame} {meth : Method} {c : Code} {b : Nat} (hx : p.tables.exec = Jvm.exec) (hb : c.code = code) (hr : meth.sig.returnType = ret) (hlocks : meth.locks = false) {pc : Nat} {H : Heap} {ls : Array Slot} (hdg : decode code pc = .ok (.ireturn, 1)) : W p l e room_1 s m #[Value.ref b] below meth c H [] 600000 7302249 (lw_Z below #[Value.ref b] s) (F0 m pc ls [.int 1]) := by
  intro T hT X
  obtain ⟨fs, hret, hrun, hended, hW, hframe⟩ := X.leave (v := some (.int 1)) (hlocks := hlocks) (fun h => by rw [hr] at h; cases h)
  have hmeth' : T.vm.method? m = some meth := X.method'
  refine ⟨T.setFrames fs, ?_, .returned (some (.int 1)), hrun, hended, rfl, ⟨_, rfl⟩, hW, hframe⟩
  jvm_step X.here [X.here.top, hx, hb, hdg, hmeth', hr, ret, narrow_b1]
  (try refine ⟨rfl, ?_⟩); (try refine ⟨rfl, ?_⟩)
  first | (intro acts; rw [hret _ acts rfl rfl rfl]) | rw [hret _ _ rfl rfl rfl]
  exact Steps.refl _
/-- what holds at the law's entry: the machine, the code, the tables' words (any of lw_tbl by 'hts w (by decide +kernel)'), the script of L ints xs at the cell b, what the Statement gives of the start (any of its parts by flat_of_before) -/
def lw_At (p : Program) (s : State) (m : MethodId) (meth : Method) (c : Code) (b L : Nat) (xs : Nat → Int32) : Prop :=
  p.tables.exec = Jvm.exec ∧ c.code = code ∧ meth.sig.returnType = ret ∧ c.maxLocals = 4 ∧ s.vm.findClass R_law = some m.cls ∧ (∀ w ∈ lw_tbl, w.before #[Value.ref b] s = true) ∧ va_X b L xs s s.heap ∧ b < s.heap.size ∧ meth.locks = false ∧ (Jvm.Cond.and given_1 narrow_1).before #[Value.ref b] s = true
theorem wArrI {s : State} {args : Array Value} {ty : FieldType} (hty : ∀ C, ty ≠ .object C) (h : (Cond.arrayClass ty).before args s = true) : ∃ cA, ArrOfT s cA ty ∧ va_RA s cA ty := by
  obtain ⟨c, k, comp, h1, h2, h3⟩ := Cond.arrayClass_spec h
  refine ⟨c, fun n z => ⟨fun k' h => (by cases h), k, h2, comp, h3⟩, ?_⟩
  cases ty with
  | object C => exact absurd rfl (hty C)
  | _ => exact h1
theorem wArrO {s : State} {args : Array Value} {C : String} (h : (Cond.arrayOver (.object C)).before args s = true) : ∃ cA, ArrOfT s cA (.object C) ∧ va_RA s cA (.object C) := by
  obtain ⟨comp, c, k, h1, _, h3, h4, h5⟩ := Cond.arrayOver_spec h
  exact ⟨c, fun n z => ⟨fun k' h => (by cases h), k, h3, comp, h4⟩, k, comp, h3, h4, h1, h5⟩
set_option maxHeartbeats 4000000 in
set_option maxRecDepth 100000 in
/-- what the tables say at the start -/
theorem law_env {s : State} {args : Array Value} (hts : ∀ w ∈ lw_tbl, w.before args s = true) : ∃ (G : va_G) (K : Nat → ClassId), va_K G vwCl (wTY K) s ∧ wE s := by
  obtain ⟨c0, i0, hk0⟩ := u_known (C := RX0) (T := TX0) (N := 11) (n := 11) hts (fun w h => (zcX0 w h).1) (hts (.instantiable RX0 11) zc755.1)
  obtain ⟨c1, i1, hk1⟩ := u_known (C := RX2) (T := TX2) (N := 8) (n := 8) hts (fun w h => (zcX2 w h).1) (hts (.instantiable RX2 8) zc746.1)
  obtain ⟨c2, i2, hk2⟩ := u_known (C := RX3) (T := TX3) (N := 4) (n := 4) hts (fun w h => (zcX3 w h).1) (hts (.instantiable RX3 4) zc739.1)
  obtain ⟨c3, i3, hk3⟩ := u_known (C := RX4) (T := TX4) (N := 16) (n := 16) hts (fun w h => (zcX4 w h).1) (hts (.instantiable RX4 16) zc567.1)
  obtain ⟨c4, i4, hk4⟩ := u_known (C := RX5) (T := TX5) (N := 2) (n := 2) hts (fun w h => (zcX5 w h).1) (hts (.instantiable RX5 2) zc730.1)
  obtain ⟨c5, i5, hk5⟩ := u_known (C := RX6) (T := TX6) (N := 2) (n := 2) hts (fun w h => (zcX6 w h).1) (hts (.instantiable RX6 2) zc742.1)
  obtain ⟨c6, i6, hk6⟩ := u_known (C := RX9) (T := TX9) (N := 2) (n := 2) hts (fun w h => (zcX9 w h).1) (hts (.instantiable RX9 2) zc559.1)
  obtain ⟨c7, i7, hk7⟩ := u_known (C := RX10) (T := TX10) (N := 5) (n := 5) hts (fun w h => (zcX10 w h).1) (hts (.instantiable RX10 5) zc891.1)
  obtain ⟨c8, i8, hk8⟩ := u_known (C := RX11) (T := TX11) (N := 42) (n := 42) hts (fun w h => (zcX11 w h).1) (hts (.instantiable RX11 42) zc880.1)
  obtain ⟨c9, i9, hk9⟩ := u_known (C := RX12) (T := TX12) (N := 7) (n := 7) hts (fun w h => (zcX12 w h).1) (hts (.instantiable RX12 7) zc887.1)
  obtain ⟨k0, a0, r0⟩ := wArrI (ty := .int) (fun _ h => by cases h) (hts (.arrayClass .int) zc552.1)
  obtain ⟨k1, a1, r1⟩ := wArrI (ty := .boolean) (fun _ h => by cases h) (hts (.arrayClass .boolean) zc723.1)
  obtain ⟨k2, a2, r2⟩ := wArrI (ty := .byte) (fun _ h => by cases h) (hts (.arrayClass .byte) zc557.1)
  obtain ⟨k3, a3, r3⟩ := wArrO (C := RX4) (hts (.arrayOver (.object RX4)) (wT1 (List.mem_of_getElem? (i := 85) (by decide +kernel))))
  obtain ⟨k4, a4, r4⟩ := wArrO (C := RX6) (hts (.arrayOver (.object RX6)) (wT1 (List.mem_of_getElem? (i := 120) (by decide +kernel))))
  refine ⟨(fun k => match k with | 0 => c0 | 1 => c1 | 2 => c2 | 3 => c3 | 4 => c4 | 5 => c5 | 6 => c6 | 7 => c7 | 8 => c8 | _ => c9, fun k => match k with | 0 => i0 | 1 => i1 | 2 => i2 | 3 => i3 | 4 => i4 | 5 => i5 | 6 => i6 | 7 => i7 | 8 => i8 | _ => i9), fun k => match k with | 0 => k0 | 1 => k1 | 2 => k2 | 3 => k3 | _ => k4, ⟨fun k q hq => ?_, fun k q hq => ?_⟩, ?_⟩
  · match k, hq with
    | 0, hq => cases hq; exact hk0
    | 1, hq => cases hq; exact hk1
    | 2, hq => cases hq; exact hk2
    | 3, hq => cases hq; exact hk3
    | 4, hq => cases hq; exact hk4
    | 5, hq => cases hq; exact hk5
    | 6, hq => cases hq; exact hk6
    | 7, hq => cases hq; exact hk7
    | 8, hq => cases hq; exact hk8
    | 9, hq => cases hq; exact hk9
    | k + 10, hq => simp [vwCl] at hq
  · match k, hq with
    | 0, hq => cases hq; exact ⟨a0, r0⟩
    | 1, hq => cases hq; exact ⟨a1, r1⟩
    | 2, hq => cases hq; exact ⟨a2, r2⟩
    | 3, hq => cases hq; exact ⟨a3, r3⟩
    | 4, hq => cases hq; exact ⟨a4, r4⟩
    | k + 5, hq => simp [wTY] at hq
  · exact ⟨⟨va_AO.of (hts (.arrayOver (.object RX4)) (wT1 (List.mem_of_getElem? (i := 85) (by decide +kernel)))), va_AO.of (hts (.arrayOver (.object RX6)) (wT1 (List.mem_of_getElem? (i := 120) (by decide +kernel))))⟩, va_Nw.of rfl (hts (.methodLinkNest RX0 11 yX2_init "MotionFloor") (wT1 (List.mem_of_getElem? (i := 33) (by decide +kernel)))), va_Nw.of rfl (hts (.methodLinkNest RX0 20 yX5_init "MotionFloor") (wT1 (List.mem_of_getElem? (i := 80) (by decide +kernel)))), va_Nw.of rfl (hts (.methodLinkNest RX0 27 yX6_init "MotionFloor") (wT1 (List.mem_of_getElem? (i := 101) (by decide +kernel)))), va_Nw.of rfl (hts (.methodLinkNest RX6 17 yX5_init "MotionFloor") (wT1 (List.mem_of_getElem? (i := 106) (by decide +kernel)))), va_Nw.of rfl (hts (.methodLinkNest RX0 50 yX9_init "MotionFloor") (wT1 (List.mem_of_getElem? (i := 148) (by decide +kernel)))), va_Nw.of rfl (hts (.methodLinkNest RX0 137 yX4_init "MotionFloor") (wT3 (List.mem_of_getElem? (i := 0) (by decide +kernel)))), va_Nw.of rfl (hts (.methodLinkNest RX4 11 yX9_init "MotionFloor") (wT3 (List.mem_of_getElem? (i := 5) (by decide +kernel)))), va_Nw.of rfl (hts (.methodLinkNest RX12 15 yX11_init "MotionFloorModel") (wT5 (List.mem_of_getElem? (i := 29) (by decide +kernel)))), va_Nw.of rfl (hts (.methodLinkNest RX11 136 yX12_in "MotionFloorModel") (wT6 (List.mem_of_getElem? (i := 5) (by decide +kernel)))), va_Nw.of rfl (hts (.methodLinkNest RX11 203 yX12_numbers "MotionFloorModel") (wT6 (List.mem_of_getElem? (i := 113) (by decide +kernel))))⟩
