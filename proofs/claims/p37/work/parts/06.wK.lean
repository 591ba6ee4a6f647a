def wK (E : Ev) (h : Nat → Nat) (g : Nat → Option Nat) (μ : Mem) : va_W := [(h 0, .inr (7, [])), (h 1, .inr (0, [])), (h 2, .inr (2, [])), (h 3, .inr (8, [])), (h 4, .inr (3, [])), (h 5, .inr (10, [])), (h 6, .inr (9, []))]
theorem wK_0 (E : Ev) (h : Nat → Nat) (g : Nat → Option Nat) (μ : Mem) : (wK E h g μ)[0]? = some (h 0, .inr (7, [])) := rfl
theorem wK_1 (E : Ev) (h : Nat → Nat) (g : Nat → Option Nat) (μ : Mem) : (wK E h g μ)[1]? = some (h 1, .inr (0, [])) := rfl
theorem wK_2 (E : Ev) (h : Nat → Nat) (g : Nat → Option Nat) (μ : Mem) : (wK E h g μ)[2]? = some (h 2, .inr (2, [])) := rfl
theorem wK_3 (E : Ev) (h : Nat → Nat) (g : Nat → Option Nat) (μ : Mem) : (wK E h g μ)[3]? = some (h 3, .inr (8, [])) := rfl
theorem wK_4 (E : Ev) (h : Nat → Nat) (g : Nat → Option Nat) (μ : Mem) : (wK E h g μ)[4]? = some (h 4, .inr (3, [])) := rfl
theorem wK_5 (E : Ev) (h : Nat → Nat) (g : Nat → Option Nat) (μ : Mem) : (wK E h g μ)[5]? = some (h 5, .inr (10, [])) := rfl
theorem wK_6 (E : Ev) (h : Nat → Nat) (g : Nat → Option Nat) (μ : Mem) : (wK E h g μ)[6]? = some (h 6, .inr (9, [])) := rfl
