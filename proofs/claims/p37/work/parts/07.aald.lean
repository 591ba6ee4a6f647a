section JAA
variable {p : Program} {l : Launch} {e : Env} {R : Room} {s : State} {m : MethodId} {args : Array Value} {below : List Frame} {meth : Method} {c : Code} {E : Ev} {A : Nat → Prop} {nL : Nat} {Q : State → Prop} {ws : va_W} {lo : List (Option Value)} {pc : Nat} {st : List Value} {own : String} {cc : ByteArray}
theorem j_aald4 (X : CX p s m args c own cc E A nL) {a : Nat} (q0 : Nat) {n : Nat} {f : Nat → Option Nat} (ha : ws[q0]? = some (a, .inl (E.2 4, n, .inr (.inr (.inr (.inr f)))))) {i : Int32} (hin : vp_in i n) {b : Nat} (hb : f i.toNatClampNeg = some b) (hdg : decode cc pc = .ok (.aaload, 1))
    (kk : J p l e R s m args below meth c E A nL Q ws lo (pc + 1) (.ref b :: st)) : J p l e R s m args below meth c E A nL Q ws lo pc (.int i :: .ref a :: st) := fun H locs ls hP hD hS hL => by
  have hlt : i.toNatClampNeg < n := Nat.not_le.mp fun q => hin (Or.inr q)
  refine W.aald (v := va_rf (f i.toNatClampNeg)) (ty := .array .int) X.1 X.2.1 (hP q0 _ ha) ((X.2.2.2.2.2.1.2 4 _ rfl).1 n (fun j => va_rf (f j))) rfl (fun q => by cases q) (by show ¬ (i < 0 ∨ (arrV _ _ _).slots.size ≤ _); rw [arrV_size]; exact hin) (by show (arrV _ _ _).slots[_]? = _; rw [arrV_read _ _ hlt]) rfl rfl hdg ?_
  rw [hb]
  exact kk H locs ls hP hD hS hL
end JAA
