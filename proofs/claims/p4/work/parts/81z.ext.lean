/-! ===== more of the store ===== -/
theorem re_nara (ad : Nat → Nat) (r : Option Nat) (C : FieldType) : narrow (.array C) (va_re ad r) = va_re ad r := by
  cases r <;> rfl
theorem re_fita (ad : Nat → Nat) (r : Option Nat) (C : FieldType) : fits (.array C) (va_re ad r) = true := by
  cases r <;> rfl
