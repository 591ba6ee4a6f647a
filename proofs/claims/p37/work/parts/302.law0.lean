/-! rules for the law's own walk -/
theorem capL {ws vs : va_W} {n : Nat} (h : ws.length = n) : (List.range n).map (fun i => (ws ++ vs)[i]?) = ws.map some := by
  rw [← cutAll h]
  apply List.map_congr_left
  intro i hi
  exact List.getElem?_append_left (by rw [h]; exact List.mem_range.mp hi)
theorem capR {ws vs : va_W} {n k : Nat} (h : ws.length = n) (hv : vs.length = k) : ((List.range k).map (fun i => n + i)).map (fun i => (ws ++ vs)[i]?) = vs.map some := by
  rw [← cutAll hv, List.map_map]
  apply List.map_congr_left
  intro i hi
  simp only [Function.comp]
  rw [List.getElem?_append_right (by omega)]
  congr 1; omega
theorem putL {ws ws' vs : va_W} {n : Nat} (hn : va_nd (List.range n) = true) (h : ws.length = n) (h' : ws'.length = n) : putW (ws ++ vs) (List.range n) ws' = ws' ++ vs := by
  apply List.ext_getElem?
  intro k
  rw [putW_at _ _ _ hn (by rw [List.length_range, h']) k]
  have e := putW_at (List.range n) ws' ws hn (by rw [List.length_range, h']) k
  rw [putW_all hn h h'] at e
  by_cases hk : k < n
  · cases hi : ixO (List.range n) 0 k with
    | none => rw [hi] at e; simp only at e ⊢; rw [List.getElem?_append_left (by omega), List.getElem?_append_left (by omega)]; exact e.symm
    | some j =>
      rw [hi] at e
      simp only at e ⊢
      have c1 : k < ws.length := by omega
      have c2 : k < (ws ++ vs).length := by rw [List.length_append]; omega
      rw [if_pos c1] at e
      rw [List.getElem?_append_left (by omega), e, if_pos c2]
  · rw [ixO_none _ _ _ (by simpa using hk)]
    simp only
    rw [List.getElem?_append_right (by omega), List.getElem?_append_right (by omega), h, h']
theorem ixO_map (n : Nat) : ∀ (P : List Nat) (o k : Nat), ixO (P.map (fun i => n + i)) o (n + k) = ixO P o k
  | [], _, _ => rfl
  | p :: P, o, k => by
    simp only [List.map_cons, ixO]
    by_cases e : k = p
    · rw [if_pos e, if_pos (by omega)]
    · rw [if_neg e, if_neg (by omega)]
      exact ixO_map n P (o + 1) k
theorem putR {ws vs vs' : va_W} {n k : Nat} (hn0 : va_nd (List.range k) = true) (hn : va_nd ((List.range k).map (fun i => n + i)) = true) (h : ws.length = n) (hv : vs.length = k) (hv' : vs'.length = k) : putW (ws ++ vs) ((List.range k).map (fun i => n + i)) vs' = ws ++ vs' := by
  apply List.ext_getElem?
  intro i
  rw [putW_at _ _ _ hn (by simp [hv']) i]
  have e0 : ∀ j : Nat, (putW vs (List.range k) vs')[j]? = vs'[j]? := fun j => by rw [putW_all hn0 hv hv']
  by_cases hi : i < n
  · rw [ixO_none _ _ _ (by simp; omega)]
    simp only
    rw [List.getElem?_append_left (by omega), List.getElem?_append_left (by omega)]
  · obtain ⟨j, rfl⟩ : ∃ j, i = n + j := ⟨i - n, by omega⟩
    rw [ixO_map]
    have e := e0 j
    rw [putW_at _ _ _ hn0 (by rw [List.length_range, hv']) j] at e
    cases hj : ixO (List.range k) 0 j with
    | none =>
      rw [hj] at e
      simp only at e ⊢
      rw [List.getElem?_append_right (by omega), List.getElem?_append_right (by omega), h]
      simpa using e
    | some q =>
      rw [hj] at e
      simp only at e ⊢
      rw [List.getElem?_append_right (show ws.length ≤ n + j by omega), h]
      by_cases hl : j < vs.length
      · rw [if_pos hl] at e
        rw [if_pos (by rw [List.length_append]; omega), e]
        congr 1; omega
      · rw [if_neg hl] at e
        rw [if_neg (by rw [List.length_append]; omega), e]
        congr 1; omega
theorem hOf0 (k : Nat) (h : Nat → Nat) : hOf k h 0 = h 0 := by
  unfold hOf
  split
  · rfl
  · split <;> rfl
theorem lgc_self {r r' : Int64} (h : r = r') : lg_cmp r r' = 0 := by
  subst h
  simp [lg_cmp]
section JL
variable {p : Program} {l : Launch} {e : Env} {R : Room} {s : State} {m : MethodId} {args : Array Value} {below : List Frame} {meth : Method} {c : Code} {E : Ev} {A : Nat → Prop} {nL : Nat} {Q : State → Prop} {ws : va_W} {lo : List (Option Value)} {pc : Nat} {st : List Value} {own : String} {cc : ByteArray} {cn sn : Nat}
theorem n_sld (X : CX p s m args c own cc E A nL) {b L : Nat} {xs : Nat → Int32} (hX : va_X b L xs s s.heap) (hbl : b < s.heap.size) (hbA : ¬ A b) {i : Int32} (hin : vp_in i L) (hdg : decode cc pc = .ok (.iaload, 1)) (kk : JN p l e R s m args below meth c E A nL Q cn sn ws lo (pc + 1) (.int (xs i.toNatClampNeg) :: st)) : JN p l e R s m args below meth c E A nL Q cn sn ws lo pc (.int i :: .ref b :: st) := fun H locs ls hP hD hS hL =>
  va_sld X.1 X.2.1 hX hbl hbA hS hin hdg (kk H locs ls hP hD hS hL)
theorem n_slen (X : CX p s m args c own cc E A nL) {b L : Nat} {xs : Nat → Int32} (hX : va_X b L xs s s.heap) (hbl : b < s.heap.size) (hbA : ¬ A b) (hdg : decode cc pc = .ok (.arraylength, 1)) (kk : JN p l e R s m args below meth c E A nL Q cn sn ws lo (pc + 1) (.int (nI L) :: st)) : JN p l e R s m args below meth c E A nL Q cn sn ws lo pc (.ref b :: st) := fun H locs ls hP hD hS hL =>
  va_slen X.1 X.2.1 hX hbl hbA hS hdg (kk H locs ls hP hD hS hL)
theorem n_loc {lo' : List (Option Value)} (h : lo = lo') (kk : JN p l e R s m args below meth c E A nL Q cn sn ws lo' pc st) : JN p l e R s m args below meth c E A nL Q cn sn ws lo pc st := h ▸ kk
theorem n_stk {st' : List Value} (h : st = st') (kk : JN p l e R s m args below meth c E A nL Q cn sn ws lo pc st') : JN p l e R s m args below meth c E A nL Q cn sn ws lo pc st := h ▸ kk
end JL
theorem lw_end {i L : Nat} (hi : i ≤ L) (hL : L ≤ 4000) (h : ¬ (nI i > nI L - (6 : Int32))) : i + 6 ≤ L := by
  have e : (nI L - (6 : Int32)).toInt = (L : Int) - 6 := by
    rw [show (6 : Int32) = nI 6 from rfl]
    exact pk_sub_toInt (by omega) (by omega)
  have h2 : ¬ ((nI L - (6 : Int32)).toInt < (nI i).toInt) := fun q => h (Int32.lt_iff_toInt_lt.mpr q)
  rw [e, nI_toInt (by omega)] at h2
  omega
theorem nI_ad (i j : Nat) {x : Int32} (h : x = nI j) : nI (i + j) = nI i + x := by rw [h, nI_add]
