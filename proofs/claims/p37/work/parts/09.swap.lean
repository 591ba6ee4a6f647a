def swh (i j : Nat) (h : Nat → Nat) : Nat → Nat := fun k => if k = i then h j else if k = j then h i else h k
def swm (i j : Nat) (μ : Mem) : Mem := fun k => if k = i then μ j else if k = j then μ i else μ k
def gset (g : Nat → Option Nat) (i v : Nat) : Nat → Option Nat := fun k => if k = i then some v else g k
def hOf (k : Nat) (h : Nat → Nat) : Nat → Nat := if k = 2 then swh 9 10 h else if k = 4 then swh 13 14 h else h
def gOf (k : Nat) (h : Nat → Nat) (g : Nat → Option Nat) : Nat → Option Nat := if k = 1 ∨ k = 2 then gset g 0 (h 2) else if k = 3 ∨ k = 4 then gset g 1 (h 2) else g
section JPM
variable {p : Program} {l : Launch} {e : Env} {R : Room} {s : State} {m : MethodId} {args : Array Value} {below : List Frame} {meth : Method} {c : Code} {E : Ev} {A : Nat → Prop} {nL : Nat} {Q : State → Prop} {ws : va_W} {lo : List (Option Value)} {pc : Nat} {st : List Value} {own : String} {cc : ByteArray}
theorem j_perm {ws' : va_W} (ps : List Nat) (hn : va_nd ps = true) (hs : ps.map (fun i => ws[i]?) = ws'.map some) (kk : J p l e R s m args below meth c E A nL Q ws' lo pc st) : J p l e R s m args below meth c E A nL Q ws lo pc st :=
  fun H locs ls hP hD hS hL => kk H locs ls (subC ps hs hP) (hD.sub ps hn hs) hS hL
end JPM
