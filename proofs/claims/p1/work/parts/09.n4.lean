theorem vu4 (a b c d : Nat) : va_up (va_up (va_up (va_up (fun _ => none) (0 : Int32).toNatClampNeg (some a)) (1 : Int32).toNatClampNeg (some b)) (2 : Int32).toNatClampNeg (some c)) (3 : Int32).toNatClampNeg (some d) = (fun j => [a, b, c, d][j]?) := by
  funext j
  match j with
  | 0 => rfl
  | 1 => rfl
  | 2 => rfl
  | 3 => rfl
  | j + 4 => simp [va_up, show ((0 : Int32).toNatClampNeg) = 0 from rfl, show ((1 : Int32).toNatClampNeg) = 1 from rfl, show ((2 : Int32).toNatClampNeg) = 2 from rfl, show ((3 : Int32).toNatClampNeg) = 3 from rfl]
theorem vu7 (a b c d e f g : Nat) : va_up (va_up (va_up (va_up (va_up (va_up (va_up (fun _ => none) (0 : Int32).toNatClampNeg (some a)) (1 : Int32).toNatClampNeg (some b)) (2 : Int32).toNatClampNeg (some c)) (3 : Int32).toNatClampNeg (some d)) (4 : Int32).toNatClampNeg (some e)) (5 : Int32).toNatClampNeg (some f)) (6 : Int32).toNatClampNeg (some g) = (fun j => [a, b, c, d, e, f, g][j]?) := by
  funext j
  match j with
  | 0 => rfl
  | 1 => rfl
  | 2 => rfl
  | 3 => rfl
  | 4 => rfl
  | 5 => rfl
  | 6 => rfl
  | j + 7 => simp [va_up, show ((0 : Int32).toNatClampNeg) = 0 from rfl, show ((1 : Int32).toNatClampNeg) = 1 from rfl, show ((2 : Int32).toNatClampNeg) = 2 from rfl, show ((3 : Int32).toNatClampNeg) = 3 from rfl, show ((4 : Int32).toNatClampNeg) = 4 from rfl, show ((5 : Int32).toNatClampNeg) = 5 from rfl, show ((6 : Int32).toNatClampNeg) = 6 from rfl]
section JNM
variable {p : Program} {l : Launch} {e : Env} {R : Room} {s : State} {m : MethodId} {args : Array Value} {below : List Frame} {meth : Method} {c : Code} {E : Ev} {A : Nat → Prop} {nL : Nat} {Q : State → Prop} {ws : va_W} {lo : List (Option Value)} {pc : Nat} {st : List Value} {own : String} {cc : ByteArray} {cn sn : Nat}
theorem n_mna (X : CX p s m args c own cc E A nL) (F : FN s) {index : Nat} (k1 : Cond.classLink own index "[[I" ∈ tbl) (k2 : Cond.arrayClass .int ∈ tbl) (hcells : cn + 5 ≤ R.cells) (hslots : sn + 100 ≤ R.slots) (hdg : decode cc pc = .ok (.multianewarray index 2, 4)) {ws' : (Nat → Nat) → va_W} (hws : ∀ r : Nat → Nat, ws ++ [(r 0, .inl (E.2 4, 4, .inr (.inr (.inr (.inr (fun j => [r 1, r 2, r 3, r 4][j]?)))))), (r 1, .inl (E.2 0, 24, .inl (fun _ => 0))), (r 2, .inl (E.2 0, 24, .inl (fun _ => 0))), (r 3, .inl (E.2 0, 24, .inl (fun _ => 0))), (r 4, .inl (E.2 0, 24, .inl (fun _ => 0)))] = ws' r)
    (kk : ∀ r : Nat → Nat, JN p l e R s m args below meth c E A nL Q (cn + 5) (sn + 100) (ws' r) lo (pc + 4) (.ref (r 0) :: st)) : JN p l e R s m args below meth c E A nL Q cn sn ws lo pc (.int 24 :: .int 4 :: st) := sorry
end JNM
