def wV (E : Ev) (h : Nat → Nat) (g : Nat → Option Nat) (μ : Mem) : va_W := [(h 0, .inr (6, [.int (μ 0 0), .int (μ 0 1), .int (μ 0 2), .int (μ 0 3), .ref (h 1), .ref (h 2), .int (μ 0 6)])), (h 1, .inl (E.2 0, 30, .inl (μ 1))), (h 2, .inl (E.2 0, 30, .inl (μ 2))), (h 3, .inr (7, [])), (h 4, .inr (0, [])), (h 5, .inr (2, [])), (h 6, .inr (8, [])), (h 7, .inr (3, [])), (h 8, .inr (10, [])), (h 9, .inr (9, []))]
theorem wV_0 (E : Ev) (h : Nat → Nat) (g : Nat → Option Nat) (μ : Mem) : (wV E h g μ)[0]? = some (h 0, .inr (6, [.int (μ 0 0), .int (μ 0 1), .int (μ 0 2), .int (μ 0 3), .ref (h 1), .ref (h 2), .int (μ 0 6)])) := rfl
theorem wV_f0_0 (E : Ev) (h : Nat → Nat) (g : Nat → Option Nat) (μ : Mem) (v : Int32) : (wV E h g μ).set 0 (h 0, .inr (6, ([.int (μ 0 0), .int (μ 0 1), .int (μ 0 2), .int (μ 0 3), .ref (h 1), .ref (h 2), .int (μ 0 6)]).set 0 (.int v))) = wV E h g (upA μ 0 (upd (μ 0) 0 v)) := rfl
theorem wV_f0_1 (E : Ev) (h : Nat → Nat) (g : Nat → Option Nat) (μ : Mem) (v : Int32) : (wV E h g μ).set 0 (h 0, .inr (6, ([.int (μ 0 0), .int (μ 0 1), .int (μ 0 2), .int (μ 0 3), .ref (h 1), .ref (h 2), .int (μ 0 6)]).set 1 (.int v))) = wV E h g (upA μ 0 (upd (μ 0) 1 v)) := rfl
theorem wV_f0_2 (E : Ev) (h : Nat → Nat) (g : Nat → Option Nat) (μ : Mem) (v : Int32) : (wV E h g μ).set 0 (h 0, .inr (6, ([.int (μ 0 0), .int (μ 0 1), .int (μ 0 2), .int (μ 0 3), .ref (h 1), .ref (h 2), .int (μ 0 6)]).set 2 (.int v))) = wV E h g (upA μ 0 (upd (μ 0) 2 v)) := rfl
theorem wV_f0_3 (E : Ev) (h : Nat → Nat) (g : Nat → Option Nat) (μ : Mem) (v : Int32) : (wV E h g μ).set 0 (h 0, .inr (6, ([.int (μ 0 0), .int (μ 0 1), .int (μ 0 2), .int (μ 0 3), .ref (h 1), .ref (h 2), .int (μ 0 6)]).set 3 (.int v))) = wV E h g (upA μ 0 (upd (μ 0) 3 v)) := rfl
theorem wV_f0_6 (E : Ev) (h : Nat → Nat) (g : Nat → Option Nat) (μ : Mem) (v : Int32) : (wV E h g μ).set 0 (h 0, .inr (6, ([.int (μ 0 0), .int (μ 0 1), .int (μ 0 2), .int (μ 0 3), .ref (h 1), .ref (h 2), .int (μ 0 6)]).set 6 (.int v))) = wV E h g (upA μ 0 (upd (μ 0) 6 v)) := rfl
theorem wV_1 (E : Ev) (h : Nat → Nat) (g : Nat → Option Nat) (μ : Mem) : (wV E h g μ)[1]? = some (h 1, .inl (E.2 0, 30, .inl (μ 1))) := rfl
theorem wV_s1 (E : Ev) (h : Nat → Nat) (g : Nat → Option Nat) (μ : Mem) (f : Nat → Int32) : (wV E h g μ).set 1 (h 1, .inl (E.2 0, 30, .inl f)) = wV E h g (upA μ 1 f) := rfl
theorem wV_2 (E : Ev) (h : Nat → Nat) (g : Nat → Option Nat) (μ : Mem) : (wV E h g μ)[2]? = some (h 2, .inl (E.2 0, 30, .inl (μ 2))) := rfl
theorem wV_s2 (E : Ev) (h : Nat → Nat) (g : Nat → Option Nat) (μ : Mem) (f : Nat → Int32) : (wV E h g μ).set 2 (h 2, .inl (E.2 0, 30, .inl f)) = wV E h g (upA μ 2 f) := rfl
theorem wV_3 (E : Ev) (h : Nat → Nat) (g : Nat → Option Nat) (μ : Mem) : (wV E h g μ)[3]? = some (h 3, .inr (7, [])) := rfl
theorem wV_4 (E : Ev) (h : Nat → Nat) (g : Nat → Option Nat) (μ : Mem) : (wV E h g μ)[4]? = some (h 4, .inr (0, [])) := rfl
theorem wV_5 (E : Ev) (h : Nat → Nat) (g : Nat → Option Nat) (μ : Mem) : (wV E h g μ)[5]? = some (h 5, .inr (2, [])) := rfl
theorem wV_6 (E : Ev) (h : Nat → Nat) (g : Nat → Option Nat) (μ : Mem) : (wV E h g μ)[6]? = some (h 6, .inr (8, [])) := rfl
theorem wV_7 (E : Ev) (h : Nat → Nat) (g : Nat → Option Nat) (μ : Mem) : (wV E h g μ)[7]? = some (h 7, .inr (3, [])) := rfl
theorem wV_8 (E : Ev) (h : Nat → Nat) (g : Nat → Option Nat) (μ : Mem) : (wV E h g μ)[8]? = some (h 8, .inr (10, [])) := rfl
theorem wV_9 (E : Ev) (h : Nat → Nat) (g : Nat → Option Nat) (μ : Mem) : (wV E h g μ)[9]? = some (h 9, .inr (9, [])) := rfl
