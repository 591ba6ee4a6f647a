def wA2 (E : Ev) (h : Nat → Nat) (g : Nat → Option Nat) (μ : Mem) : va_W := [(h 0, .inl (E.2 0, 387, .inl (μ 0))), (h 1, .inl (E.2 0, 387, .inl (μ 1)))]
theorem wA2_0 (E : Ev) (h : Nat → Nat) (g : Nat → Option Nat) (μ : Mem) : (wA2 E h g μ)[0]? = some (h 0, .inl (E.2 0, 387, .inl (μ 0))) := rfl
theorem wA2_s0 (E : Ev) (h : Nat → Nat) (g : Nat → Option Nat) (μ : Mem) (f : Nat → Int32) : (wA2 E h g μ).set 0 (h 0, .inl (E.2 0, 387, .inl f)) = wA2 E h g (upA μ 0 f) := rfl
theorem wA2_1 (E : Ev) (h : Nat → Nat) (g : Nat → Option Nat) (μ : Mem) : (wA2 E h g μ)[1]? = some (h 1, .inl (E.2 0, 387, .inl (μ 1))) := rfl
theorem wA2_s1 (E : Ev) (h : Nat → Nat) (g : Nat → Option Nat) (μ : Mem) (f : Nat → Int32) : (wA2 E h g μ).set 1 (h 1, .inl (E.2 0, 387, .inl f)) = wA2 E h g (upA μ 1 f) := rfl
