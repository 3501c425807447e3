/-! ===== rows of decode, many at once: one walk over a method's bytes ===== -/
/-- the byte at p -/
def Bt (c : ByteArray) (p b : Nat) : Prop := ∃ hp : p < c.size, (c[p]'hp).toNat = b
theorem Bt_of {c : ByteArray} {pre r : List UInt8} {a : UInt8} (h : c.data.toList = pre ++ a :: r) : Bt c pre.length a.toNat := by
  have e : c.data[pre.length]? = some a := by
    rw [← Array.getElem?_toList, h]
    simp
  obtain ⟨hs, e2⟩ := Array.getElem?_eq_some_iff.mp e
  exact ⟨hs, congrArg UInt8.toNat e2⟩
theorem u1_run {c : ByteArray} {p b : Nat} (h : Bt c p b) : (Reader.u1 : Decoder Nat) c p = .ok (b, p + 1) := by
  obtain ⟨hp, hb⟩ := h
  show ((if h : p < c.size then (do set (p + 1); pure (c[p]'h).toNat) else throw (HasTruncated.truncated p) : Decoder Nat) c p) = _
  rw [dif_pos hp]
  show Except.ok ((c[p]'hp).toNat, p + 1) = _
  rw [hb]
theorem u2_run {c : ByteArray} {p hi lo : Nat} (h : Bt c p hi) (k : Bt c (p + 1) lo) : (Reader.u2 : Decoder Nat) c p = .ok (hi * 256 + lo, p + 2) := by
  show Except.bind ((Reader.u1 : Decoder Nat) c p) (fun q => Except.bind ((Reader.u1 : Decoder Nat) c q.2) (fun t => .ok (q.1 * 256 + t.1, t.2))) = _
  rw [u1_run h]
  show Except.bind ((Reader.u1 : Decoder Nat) c (p + 1)) (fun t => .ok (hi * 256 + t.1, t.2)) = _
  rw [u1_run k]
  rfl
theorem s1_run {c : ByteArray} {p b : Nat} (h : Bt c p b) : (Reader.s1 : Decoder Int) c p = .ok (Reader.signed 8 b, p + 1) := by
  show Except.bind ((Reader.u1 : Decoder Nat) c p) (fun q => .ok (Reader.signed 8 q.1, q.2)) = _
  rw [u1_run h]
  rfl
theorem s2_run {c : ByteArray} {p hi lo : Nat} (h : Bt c p hi) (k : Bt c (p + 1) lo) : (Reader.s2 : Decoder Int) c p = .ok (Reader.signed 16 (hi * 256 + lo), p + 2) := by
  show Except.bind ((Reader.u2 : Decoder Nat) c p) (fun q => .ok (Reader.signed 16 q.1, q.2)) = _
  rw [u2_run h k]
  rfl
/-- what follows the opcode -/
def FI (pc : Nat) : { F : Nat → Decoder Instr // Decoder.instr pc = Reader.u1 >>= F } := ⟨_, rfl⟩
theorem dec_g {c : ByteArray} {pc b j : Nat} {i : Instr} (h : Bt c pc b) (k : (FI pc).1 b c (pc + 1) = .ok (i, j)) : decode c pc = .ok (i, j - pc) := by
  have e : decode c pc = Except.bind ((Decoder.instr pc) c pc) (fun q => .ok (q.1, q.2 - pc)) := rfl
  rw [e, (FI pc).2]
  show Except.bind (Except.bind ((Reader.u1 : Decoder Nat) c pc) (fun q => (FI pc).1 q.1 c q.2)) (fun q => .ok (q.1, q.2 - pc)) = _
  rw [u1_run h]
  show Except.bind ((FI pc).1 b c (pc + 1)) (fun q => .ok (q.1, q.2 - pc)) = _
  rw [k]
  rfl
/-- of one byte -/
def db1 : Nat → Option Instr
  | 42 => some (.aload_n 0)
  | 43 => some (.aload_n 1)
  | 27 => some (.iload_n 1)
  | 28 => some (.iload_n 2)
  | 29 => some (.iload_n 3)
  | 26 => some (.iload_n 0)
  | 3 => some (.iconst 0)
  | 4 => some (.iconst 1)
  | 172 => some .ireturn
  | 46 => some .iaload
  | 96 => some .iadd
  | 5 => some (.iconst 2)
  | 6 => some (.iconst 3)
  | 7 => some (.iconst 4)
  | 8 => some (.iconst 5)
  | 2 => some (.iconst (-1))
  | 44 => some (.aload_n 2)
  | 45 => some (.aload_n 3)
  | 59 => some (.istore_n 0)
  | 60 => some (.istore_n 1)
  | 61 => some (.istore_n 2)
  | 62 => some (.istore_n 3)
  | 87 => some .pop
  | 79 => some .iastore
  | 177 => some .return_
  | 104 => some .imul
  | 100 => some .isub
  | 89 => some .dup
  | 75 => some (.astore_n 0)
  | 76 => some (.astore_n 1)
  | 77 => some (.astore_n 2)
  | 78 => some (.astore_n 3)
  | 51 => some .baload
  | 190 => some .arraylength
  | 84 => some .bastore
  | 50 => some .aaload
  | 176 => some .areturn
  | 1 => some .aconst_null
  | 92 => some .dup2
  | 83 => some .aastore
  | 145 => some .i2b
  | 116 => some .ineg
  | 126 => some .iand
  | _ => none
/-- of two -/
def db2 (b x : Nat) : Option Instr :=
  match b with
  | 16 => some (.bipush (Reader.signed 8 x))
  | 21 => some (.iload x)
  | 54 => some (.istore x)
  | 25 => some (.aload x)
  | 58 => some (.astore x)
  | 18 => some (.ldc x)
  | _ => none
/-- of three -/
def db3 (b x y : Nat) : Option Instr :=
  match b with
  | 180 => some (.getfield (x * 256 + y))
  | 182 => some (.invokevirtual (x * 256 + y))
  | 167 => some (.goto (Reader.signed 16 (x * 256 + y)))
  | 181 => some (.putfield (x * 256 + y))
  | 153 => some (.ifCond .eq (Reader.signed 16 (x * 256 + y)))
  | 154 => some (.ifCond .ne (Reader.signed 16 (x * 256 + y)))
  | 155 => some (.ifCond .lt (Reader.signed 16 (x * 256 + y)))
  | 156 => some (.ifCond .ge (Reader.signed 16 (x * 256 + y)))
  | 157 => some (.ifCond .gt (Reader.signed 16 (x * 256 + y)))
  | 158 => some (.ifCond .le (Reader.signed 16 (x * 256 + y)))
  | 159 => some (.if_icmp .eq (Reader.signed 16 (x * 256 + y)))
  | 160 => some (.if_icmp .ne (Reader.signed 16 (x * 256 + y)))
  | 161 => some (.if_icmp .lt (Reader.signed 16 (x * 256 + y)))
  | 162 => some (.if_icmp .ge (Reader.signed 16 (x * 256 + y)))
  | 163 => some (.if_icmp .gt (Reader.signed 16 (x * 256 + y)))
  | 164 => some (.if_icmp .le (Reader.signed 16 (x * 256 + y)))
  | 184 => some (.invokestatic (x * 256 + y))
  | 132 => some (.iinc x (Reader.signed 8 y))
  | 17 => some (.sipush (Reader.signed 16 (x * 256 + y)))
  | 198 => some (.ifnull (Reader.signed 16 (x * 256 + y)))
  | 199 => some (.ifnonnull (Reader.signed 16 (x * 256 + y)))
  | 183 => some (.invokespecial (x * 256 + y))
  | 187 => some (.new (x * 256 + y))
  | 178 => some (.getstatic (x * 256 + y))
  | 189 => some (.anewarray (x * 256 + y))
  | _ => none
set_option maxRecDepth 10000 in
theorem db1_s {c : ByteArray} {pc b : Nat} {i : Instr} (h : Bt c pc b) (e : db1 b = some i) : decode c pc = .ok (i, 1) := by
  have r : (FI pc).1 b c (pc + 1) = .ok (i, pc + 1) := by
    unfold db1 at e
    split at e <;> first | (cases e; rfl) | (cases e)
  have q := dec_g h r
  rw [Nat.add_sub_cancel_left] at q
  exact q
theorem FI_u1 {c : ByteArray} {pc b p x : Nat} {f : Nat → Instr} (hf : (FI pc).1 b = (do pure (f (← Reader.u1)))) (h : Bt c p x) : (FI pc).1 b c p = .ok (f x, p + 1) := by
  rw [hf]
  show Except.bind ((Reader.u1 : Decoder Nat) c p) (fun q => .ok (f q.1, q.2)) = _
  rw [u1_run h]
  rfl
theorem FI_s1 {c : ByteArray} {pc b p x : Nat} {f : Int → Instr} (hf : (FI pc).1 b = (do pure (f (← Reader.s1)))) (h : Bt c p x) : (FI pc).1 b c p = .ok (f (Reader.signed 8 x), p + 1) := by
  rw [hf]
  show Except.bind ((Reader.s1 : Decoder Int) c p) (fun q => .ok (f q.1, q.2)) = _
  rw [s1_run h]
  rfl
theorem FI_u2 {c : ByteArray} {pc b p x y : Nat} {f : Nat → Instr} (hf : (FI pc).1 b = (do pure (f (← Reader.u2)))) (h : Bt c p x) (k : Bt c (p + 1) y) : (FI pc).1 b c p = .ok (f (x * 256 + y), p + 2) := by
  rw [hf]
  show Except.bind ((Reader.u2 : Decoder Nat) c p) (fun q => .ok (f q.1, q.2)) = _
  rw [u2_run h k]
  rfl
theorem FI_s2 {c : ByteArray} {pc b p x y : Nat} {f : Int → Instr} (hf : (FI pc).1 b = (do pure (f (← Reader.s2)))) (h : Bt c p x) (k : Bt c (p + 1) y) : (FI pc).1 b c p = .ok (f (Reader.signed 16 (x * 256 + y)), p + 2) := by
  rw [hf]
  show Except.bind ((Reader.s2 : Decoder Int) c p) (fun q => .ok (f q.1, q.2)) = _
  rw [s2_run h k]
  rfl
theorem FI_us {c : ByteArray} {pc b p x y : Nat} {f : Nat → Int → Instr} (hf : (FI pc).1 b = (do pure (f (← Reader.u1) (← Reader.s1)))) (h : Bt c p x) (k : Bt c (p + 1) y) : (FI pc).1 b c p = .ok (f x (Reader.signed 8 y), p + 2) := by
  rw [hf]
  show Except.bind ((Reader.u1 : Decoder Nat) c p) (fun q => Except.bind ((Reader.s1 : Decoder Int) c q.2) (fun t => .ok (f q.1 t.1, t.2))) = _
  rw [u1_run h]
  show Except.bind ((Reader.s1 : Decoder Int) c (p + 1)) (fun t => .ok (f x t.1, t.2)) = _
  rw [s1_run k]
  rfl
theorem db2_s {c : ByteArray} {pc b x : Nat} {i : Instr} (h : Bt c pc b) (h2 : Bt c (pc + 1) x) (e : db2 b x = some i) : decode c pc = .ok (i, 2) := by
  have r : (FI pc).1 b c (pc + 1) = .ok (i, pc + 2) := by
    unfold db2 at e
    split at e <;> first | (cases e; first | exact FI_u1 rfl h2 | exact FI_s1 rfl h2) | (cases e)
  have q := dec_g h r
  rw [Nat.add_sub_cancel_left] at q
  exact q
theorem db3_s {c : ByteArray} {pc b x y : Nat} {i : Instr} (h : Bt c pc b) (h2 : Bt c (pc + 1) x) (h3 : Bt c (pc + 2) y) (e : db3 b x y = some i) : decode c pc = .ok (i, 3) := by
  have r : (FI pc).1 b c (pc + 1) = .ok (i, pc + 3) := by
    unfold db3 at e
    split at e <;> first | (cases e; first | exact FI_u2 rfl h2 h3 | exact FI_s2 rfl h2 h3 | exact FI_us rfl h2 h3) | (cases e)
  have q := dec_g h r
  rw [Nat.add_sub_cancel_left] at q
  exact q
/-- what stands at the head of some bytes -/
def dB : List UInt8 → Option (Instr × Nat)
  | [] => none
  | a :: r => match db1 a.toNat with
    | some i => some (i, 1)
    | none => match r with
      | [] => none
      | x :: r2 => match db2 a.toNat x.toNat with
        | some i => some (i, 2)
        | none => match r2 with
          | [] => none
          | y :: _ => match db3 a.toNat x.toNat y.toNat with
            | some i => some (i, 3)
            | none => none
theorem dB_s {c : ByteArray} {pre L : List UInt8} {i : Instr} {n : Nat} (h : c.data.toList = pre ++ L) (e : dB L = some (i, n)) : decode c pre.length = .ok (i, n) := by
  cases L with
  | nil => cases e
  | cons a r =>
    have b0 := Bt_of h
    unfold dB at e
    cases e1 : db1 a.toNat with
    | some j =>
      simp only [e1] at e
      cases e
      exact db1_s b0 e1
    | none =>
      simp only [e1] at e
      cases r with
      | nil => cases e
      | cons x r2 =>
        have b1 : Bt c (pre.length + 1) x.toNat := by
          have t := Bt_of (c := c) (pre := pre ++ [a]) (a := x) (r := r2) (by rw [h]; simp)
          rw [List.length_append] at t
          exact t
        cases e2 : db2 a.toNat x.toNat with
        | some j =>
          simp only [e2] at e
          cases e
          exact db2_s b0 b1 e2
        | none =>
          simp only [e2] at e
          cases r2 with
          | nil => cases e
          | cons y r3 =>
            have b2 : Bt c (pre.length + 2) y.toNat := by
              have t := Bt_of (c := c) (pre := pre ++ [a, x]) (a := y) (r := r3) (by rw [h]; simp)
              rw [List.length_append] at t
              exact t
            cases e3 : db3 a.toNat x.toNat y.toNat with
            | some j =>
              simp only [e3] at e
              cases e
              exact db3_s b0 b1 b2 e3
            | none =>
              simp only [e3] at e
              cases e
/-- rows of one method, in order, along its bytes -/
def ckS : List UInt8 → Nat → List (Nat × Instr × Nat) → Bool
  | _, _, [] => true
  | [], _, _ :: _ => false
  | a :: r, p, q :: rows => if q.1 = p then decide (dB (a :: r) = some q.2) && ckS r (p + 1) rows else ckS r (p + 1) (q :: rows)
theorem ckS_s {c : ByteArray} : ∀ (L pre : List UInt8) (rows : List (Nat × Instr × Nat)), c.data.toList = pre ++ L → ckS L pre.length rows = true → ∀ (k : Nat) {pc n : Nat} {i : Instr}, rows[k]? = some (pc, i, n) → decode c pc = .ok (i, n) := by
  intro L
  induction L with
  | nil =>
    intro pre rows h e k pc n i g
    cases rows with
    | nil => simp at g
    | cons q rows => unfold ckS at e; cases e
  | cons a r ih =>
    intro pre rows h e k pc n i g
    cases rows with
    | nil => simp at g
    | cons q rows =>
      have h2 : c.data.toList = (pre ++ [a]) ++ r := by rw [h]; simp
      have l2 : (pre ++ [a]).length = pre.length + 1 := by simp
      unfold ckS at e
      by_cases y : q.1 = pre.length
      · rw [if_pos y] at e
        have e := (Bool.and_eq_true _ _).mp e
        cases k with
        | zero =>
          simp at g
          have t := of_decide_eq_true e.1
          rw [g] at t y
          have d := dB_s h t
          rw [← y] at d
          exact d
        | succ k =>
          simp at g
          exact ih (pre ++ [a]) rows h2 (by rw [l2]; exact e.2) k g
      · rw [if_neg y] at e
        exact ih (pre ++ [a]) (q :: rows) h2 (by rw [l2]; exact e) k g
theorem ckS_g {c : ByteArray} {p : Nat} {rows : List (Nat × Instr × Nat)} (h : ckS (c.data.toList.drop p) p rows = true) (k : Nat) {pc n : Nat} {i : Instr} (g : rows[k]? = some (pc, i, n)) : decode c pc = .ok (i, n) := by
  by_cases hp : p ≤ c.data.toList.length
  · have l : (c.data.toList.take p).length = p := by
      rw [List.length_take]
      omega
    exact ckS_s _ (c.data.toList.take p) rows (List.take_append_drop p _).symm (by rw [l]; exact h) k g
  · rw [List.drop_eq_nil_of_le (by omega)] at h
    cases rows with
    | nil => simp at g
    | cons q rows => unfold ckS at h; cases h
