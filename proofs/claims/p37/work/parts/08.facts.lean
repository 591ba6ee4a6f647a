/-! what a few methods ask beside their world: the two static rows, which class is under which -/
def tabN : Nat → Int32 := fun j => ([1, 9, 81, 729] : List Int32).getD j 0
def tabT : Nat → Int32 := fun j => ([1, 10, 100, 1000] : List Int32).getD j 0
def cNo : List (String × String) := (["StandStill$Stander", "StandStill$Asleep", "StandStill$Leaning", "StandStill$Ticklish", "StandStill$Proud", "StandStill$Twin", "StandStill$Told"] : List String).flatMap (fun c => (["StandStill$Asleep", "StandStill$Leaning", "StandStill$Ticklish", "StandStill$Proud", "StandStill$Twin", "StandStill$Told"] : List String).filterMap (fun t => if c = t ∨ (c = "StandStill$Proud" ∧ t = "StandStill$Asleep") ∨ (c = "StandStill$Twin" ∧ t = "StandStill$Leaning") then none else some (c, t)))
def cYes : List (String × String) := [("StandStill$Proud", "StandStill$Asleep"), ("StandStill$Twin", "StandStill$Leaning")]
def Fx (tn tt : Nat) (A : Nat → Prop) (U : State) : Prop := va_Z "StandStill" "NINES" "[I" (.ref tn) A U U.heap ∧ va_T .int tn 4 (fun j => .int (tabN j)) A U U.heap ∧ va_Z "StandStill" "TENS" "[I" (.ref tt) A U U.heap ∧ va_T .int tt 4 (fun j => .int (tabT j)) A U U.heap ∧ (∀ q ∈ cNo, va_Nc q.1 q.2 U) ∧ ∀ q ∈ cYes, va_Nw (.castable q.1 q.2) U
theorem Fx.go {tn tt : Nat} {A B : Nat → Prop} {s U : State} {H : Heap} {locs : List Loc} (h : Fx tn tt A s) (hS : va_S A s.heap H locs) (hB : ∀ q, B q → A q) (hU : U.heap = H) (hW : s.WarmedH U.vm) : Fx tn tt B U := by
  obtain ⟨h1, h2, h3, h4, h5, h6⟩ := h
  subst hU
  exact ⟨((h1.moved hW.alike).kept hS.2.1).narrow hB, ((h2.moved hW.alike).kept hS.2.1).narrow hB, ((h3.moved hW.alike).kept hS.2.1).narrow hB, ((h4.moved hW.alike).kept hS.2.1).narrow hB, fun q hq => (h5 q hq).moved hW.alike, fun q hq => va_Nw.warmC hW (h6 q hq)⟩
def CtF (tn tt : Nat) (E : Ev) (y : MethodName) (cd : ByteArray) (nL : Nat) (ret : Option FieldType) (rm : Room) (ws ws' : va_W) (as : List Value) (v : Option Value) : Prop :=
  ∀ (l : Launch) (sz : Nat), Met l y (.code y cd nL ret :: tbl) rm (va_Pc as (fun U => U.heap.size = sz ∧ va_P E.1 vwCl ws U.heap ∧ va_K E.1 vwCl (tysOf E) U ∧ va_D (fun _ => True) ws ∧ Fx tn tt (va_A ws sz) U)) (QG E (va_A ws sz) ws' v) 0 0 (va_A ws sz)
theorem ctF_start {tn tt : Nat} {E : Ev} {y : MethodName} {cd : ByteArray} {nL : Nat} {ret : Option FieldType} {rm : Room} {ws ws' : va_W} {as : List Value} {v : Option Value} (own : String) (k : Nat) (hy : plainName y.cls = true) (hyo : y.cls = own) (hn : (lg_sl as).length ≤ nL)
    (body : ∀ (p : Program) (l : Launch) (e : Env) (s : State) (m : MethodId) (args : Array Value) (below : List Frame) (meth : Method) (c : Code) (A : Nat → Prop) (Q : State → Prop), CX p s m args c own cd E A nL → Fx tn tt A s → meth.sig.returnType = ret → meth.locks = false → Q = MQ below (QG E A ws' v) args s 0 0 A →
      J p l e rm s m args below meth c E A nL Q ws (loE as ++ List.replicate k none) 0 []) : CtF tn tt E y cd nL ret rm ws ws' as v := by
  intro l sz
  refine Met.ofW (cc := cd) (maxL := nL) (ret := ret) hy rfl ?_
  intro p e s m args below meth c s₁ B hml hv
  obtain ⟨rfl, hsz, hP, hK, hD0, hF⟩ := hv
  have hts := atoms_spec (ws := Cond.code y cd nL ret :: tbl) B.pre
  have hown : s.vm.findClass own = some m.cls := hyo ▸ findClass_of_methodNamed B.named
  subst hsz
  have hD := hD0.self (sz := s.heap.size)
  rw [lg_entry_eq]
  exact body p l e s m as.toArray below meth c (va_A ws s.heap.size) _ ⟨B.exec, B.bytes, hml, hown, fun w hw => hts w (List.mem_cons_of_mem _ hw), hK, fun q h => Or.inr h⟩ hF B.returns B.notSynchronized rfl s.heap [] _ hP hD va_S.rf (lh_pad k (lh_entry as hn))
theorem fb_ctF {tn tt : Nat} {E : Ev} {ws : va_W} {as : List Value} {sz : Nat} : FrameBlind (va_Pc as (fun U => U.heap.size = sz ∧ va_P E.1 vwCl ws U.heap ∧ va_K E.1 vwCl (tysOf E) U ∧ va_D (fun _ => True) ws ∧ Fx tn tt (va_A ws sz) U)) := by
  intro a U g mk q
  obtain ⟨q0, q1, qP, qK, qD, f1, f2, f3, f4, f5, f6⟩ := q
  have al : U.vm.Alike (U.calling g mk a).vm := Vm.Alike.refl U.vm
  exact ⟨q0, q1, qP, va_K.moved (u := U) (U := U.calling g mk a) al qK, qD, f1.moved (u := U) (U := U.calling g mk a) al, f2.moved (u := U) (U := U.calling g mk a) al, f3.moved (u := U) (U := U.calling g mk a) al, f4.moved (u := U) (U := U.calling g mk a) al, fun q hq => (f5 q hq).moved (u := U) (U := U.calling g mk a) al, fun q hq => (f6 q hq).same rfl (u := U) (U := U.calling g mk a) rfl⟩
section JF
variable {p : Program} {l : Launch} {e : Env} {R : Room} {s : State} {m : MethodId} {args : Array Value} {below : List Frame} {meth : Method} {c : Code} {E : Ev} {A : Nat → Prop} {nL : Nat} {Q : State → Prop} {ws : va_W} {lo : List (Option Value)} {pc : Nat} {st : List Value} {own : String} {cc : ByteArray} {tn tt : Nat}
theorem pre_vF {H : Heap} {locs : List Loc} {wc : va_W} {As : List Value} {b : Nat} {C : String} {T : u_T} {N ci r0 : Nat} {fs : List Value} (X : CX p s m args c own cc E A nL) (F : Fx tn tt A s) (hP : va_P E.1 vwCl ws H) (hD : va_D A ws) (hS : va_S A s.heap H locs) (is : List Nat) (hC : is.map (fun i => ws[i]?) = wc.map some) (hn : va_nd is = true) (he : wc[r0]? = some (b, .inr (ci, fs))) (hc : vwCl[ci]? = some (C, T, N)) :
    PreV s H C b (va_Pc (.ref b :: As) (fun U => U.heap.size = H.size ∧ va_P E.1 vwCl wc U.heap ∧ va_K E.1 vwCl (tysOf E) U ∧ va_D (fun _ => True) wc ∧ Fx tn tt (va_A wc H.size) U)) As :=
  ⟨fb_ctF, va_recv X.2.2.2.2.2.1 (subC is hC hP) hc he, fun U hU hW => ⟨rfl, by rw [hU], by rw [hU]; exact subC is hC hP, va_K.moved hW.alike X.2.2.2.2.2.1, (hD.sub is hn hC).weaken (fun _ _ _ _ => trivial), F.go hS (va_free hD hS X.2.2.2.2.2.2 is hC) hU hW⟩⟩
theorem pre_sF {H : Heap} {locs : List Loc} {wc : va_W} {As : List Value} (X : CX p s m args c own cc E A nL) (F : Fx tn tt A s) (hP : va_P E.1 vwCl ws H) (hD : va_D A ws) (hS : va_S A s.heap H locs) (is : List Nat) (hC : is.map (fun i => ws[i]?) = wc.map some) (hn : va_nd is = true) :
    PreS s H (va_Pc As (fun U => U.heap.size = H.size ∧ va_P E.1 vwCl wc U.heap ∧ va_K E.1 vwCl (tysOf E) U ∧ va_D (fun _ => True) wc ∧ Fx tn tt (va_A wc H.size) U)) As :=
  ⟨fb_ctF, fun U hU hW => ⟨rfl, by rw [hU], by rw [hU]; exact subC is hC hP, va_K.moved hW.alike X.2.2.2.2.2.1, (hD.sub is hn hC).weaken (fun _ _ _ _ => trivial), F.go hS (va_free hD hS X.2.2.2.2.2.2 is hC) hU hW⟩⟩
theorem j_callVF (X : CX p s m args c own cc E A nL) (F : Fx tn tt A s) {y : MethodName} {cd : ByteArray} {mL index n : Nat} {ret : Option FieldType} {rm : Room} {wc wc' ws' : va_W} {b : Nat} {As rest : List Value} {v : Option Value} {C : String} {T : u_T} {N ci : Nat} {fs : List Value} (is : List Nat) (r0 : Nat) (K : CtF tn tt E y cd mL ret rm wc wc' (.ref b :: As) v)
    (hC : is.map (fun i => ws[i]?) = wc.map some) (hn : va_nd is = true) (hlen : is.length = wc'.length) (hW : putW ws is wc' = ws') (he : wc[r0]? = some (b, .inr (ci, fs))) (hc : vwCl[ci]? = some (C, T, N))
    (k1 : Cond.methodLink own index y ∈ tbl) (k2 : Cond.instanceMethod y ∈ tbl) (k3 : Cond.selects C y y ∈ tbl) (k4 : Cond.initialized C ∈ tbl) (k5 : Cond.code y cd mL ret ∈ tbl) (hrm : rm.cells = 0 ∧ rm.slots = 0)
    (hd : y.cls = C ∧ y.cls ≠ "java/lang/invoke/MethodHandle" ∧ y.cls ≠ "java/lang/invoke/VarHandle" ∧ (parseMethodDescriptor y.desc).map (fun d => d.parameters.length) = some n) (hR : rm.frames + 1 ≤ R.frames ∧ 8 + (mL + 11) + rm.locals ≤ R.locals) (hAs : As.length = n) (hsum : (rest.map fun v => v.category).sum ≤ 8) (hst : st = As.reverse ++ .ref b :: rest) (hdg : decode cc pc = .ok (.invokevirtual index, 3))
    (kk : J p l e R s m args below meth c E A nL Q ws' lo (pc + 3) (v.toList ++ rest)) : J p l e R s m args below meth c E A nL Q ws lo pc st := by
  intro H locs ls hP hD hS hL
  exact w_call X hP hD hS hL is hC hn hlen hW (va_runV (Ts := tbl) ⟨X.1, X.2.1, X.2.2.1, X.2.2.2.1, X.2.2.2.2.1⟩ (K l H.size) (cwV n X.2.2.2.2.1 (gi_app (m4 k1 k2 k3 k4) k5) rfl hrm.1 hrm.2 hd hR) (pre_vF X F hP hD hS is hC hn he hc) rfl hAs hL.1 hst (lv_room hsum) hdg ⟨Nat.zero_le _, Nat.zero_le _⟩) kk
theorem j_callSF (X : CX p s m args c own cc E A nL) (F : Fx tn tt A s) {y : MethodName} {cd : ByteArray} {mL index n : Nat} {ret : Option FieldType} {rm : Room} {wc wc' ws' : va_W} {As rest : List Value} {v : Option Value} (is : List Nat) (K : CtF tn tt E y cd mL ret rm wc wc' As v)
    (hC : is.map (fun i => ws[i]?) = wc.map some) (hn : va_nd is = true) (hlen : is.length = wc'.length) (hW : putW ws is wc' = ws')
    (k1 : Cond.methodLink own index y ∈ tbl) (k2 : Cond.static y ∈ tbl) (k3 : Cond.initialized y.cls ∈ tbl) (k5 : Cond.code y cd mL ret ∈ tbl) (hrm : rm.cells = 0 ∧ rm.slots = 0)
    (hd : y.cls ≠ "java/lang/invoke/MethodHandle" ∧ y.cls ≠ "java/lang/invoke/VarHandle" ∧ (parseMethodDescriptor y.desc).map (fun d => d.parameters.length) = some n) (hR : rm.frames + 1 ≤ R.frames ∧ 8 + (mL + 11) + rm.locals ≤ R.locals) (hAs : As.length = n) (hsum : (rest.map fun v => v.category).sum ≤ 8) (hst : st = As.reverse ++ rest) (hdg : decode cc pc = .ok (.invokestatic index, 3))
    (kk : J p l e R s m args below meth c E A nL Q ws' lo (pc + 3) (v.toList ++ rest)) : J p l e R s m args below meth c E A nL Q ws lo pc st := by
  intro H locs ls hP hD hS hL
  have hG : GoodIn tbl (Cond.code y cd mL ret :: tbl) := gi_app (ws := []) (fun _ h => by cases h) k5
  have cw : CallB R s args own index y cd mL ret (Cond.code y cd mL ret :: tbl) rm 0 0 n := callB_of n X.2.2.2.2.1 hG rfl hrm.1 hrm.2 (X.2.2.2.2.1 _ k3) (X.2.2.2.2.1 _ k1) hd hR
  exact w_call X hP hD hS hL is hC hn hlen hW (va_runS (Ts := tbl) ⟨X.1, X.2.1, X.2.2.1, X.2.2.2.1, X.2.2.2.2.1⟩ (K l H.size) ⟨cw, X.2.2.2.2.1 _ k2⟩ (pre_sF X F hP hD hS is hC hn) rfl hAs hL.1 hst (lv_room hsum) hdg ⟨Nat.zero_le _, Nat.zero_le _⟩) kk
theorem j_getsN (X : CX p s m args c own cc E A nL) (F : Fx tn tt A s) {index : Nat} (hl : Cond.fieldLink own index "StandStill" "NINES" "[I" ∈ tbl) (hdg : decode cc pc = .ok (.getstatic index, 3)) (kk : J p l e R s m args below meth c E A nL Q ws lo (pc + 3) (.ref tn :: st)) : J p l e R s m args below meth c E A nL Q ws lo pc st := fun H locs ls hP hD hS hL =>
  va_gets X.1 X.2.1 F.1 hS X.2.2.2.1 (X.2.2.2.2.1 _ hl) (fun _ h9 => h9) hdg (kk H locs ls hP hD hS hL)
theorem j_getsT (X : CX p s m args c own cc E A nL) (F : Fx tn tt A s) {index : Nat} (hl : Cond.fieldLink own index "StandStill" "TENS" "[I" ∈ tbl) (hdg : decode cc pc = .ok (.getstatic index, 3)) (kk : J p l e R s m args below meth c E A nL Q ws lo (pc + 3) (.ref tt :: st)) : J p l e R s m args below meth c E A nL Q ws lo pc st := fun H locs ls hP hD hS hL =>
  va_gets X.1 X.2.1 F.2.2.1 hS X.2.2.2.1 (X.2.2.2.2.1 _ hl) (fun _ h9 => h9) hdg (kk H locs ls hP hD hS hL)
theorem j_tldN (X : CX p s m args c own cc E A nL) (F : Fx tn tt A s) {i : Int32} (hin : vp_in i 4) (hdg : decode cc pc = .ok (.iaload, 1)) (kk : J p l e R s m args below meth c E A nL Q ws lo (pc + 1) (.int (tabN i.toNatClampNeg) :: st)) : J p l e R s m args below meth c E A nL Q ws lo pc (.int i :: .ref tn :: st) := fun H locs ls hP hD hS hL =>
  va_ti X.1 X.2.1 F.2.1 hS hin rfl hdg (kk H locs ls hP hD hS hL)
theorem j_tldT (X : CX p s m args c own cc E A nL) (F : Fx tn tt A s) {i : Int32} (hin : vp_in i 4) (hdg : decode cc pc = .ok (.iaload, 1)) (kk : J p l e R s m args below meth c E A nL Q ws lo (pc + 1) (.int (tabT i.toNatClampNeg) :: st)) : J p l e R s m args below meth c E A nL Q ws lo pc (.int i :: .ref tt :: st) := fun H locs ls hP hD hS hL =>
  va_ti X.1 X.2.1 F.2.2.2.1 hS hin rfl hdg (kk H locs ls hP hD hS hL)
theorem j_inY (X : CX p s m args c own cc E A nL) (F : Fx tn tt A s) {a : Nat} {nm C : String} {T : u_T} {N ci index : Nat} {fs : List Value} (q0 : Nat) (he : ws[q0]? = some (a, .inr (ci, fs))) (hc : vwCl[ci]? = some (C, T, N)) (hl : Cond.classLink own index nm ∈ tbl) (hy : (C, nm) ∈ cYes) (hdg : decode cc pc = .ok (.instanceof index, 3)) (kk : J p l e R s m args below meth c E A nL Q ws lo (pc + 3) (.int 1 :: st)) : J p l e R s m args below meth c E A nL Q ws lo pc (.ref a :: st) := fun H locs ls hP hD hS hL =>
  va_instY X.1 X.2.1 X.2.2.2.1 (X.2.2.2.2.1 _ hl) (F.2.2.2.2.2 _ hy) (va_recv X.2.2.2.2.2.1 hP hc he) hdg (kk H locs ls hP hD hS hL)
theorem j_inN (X : CX p s m args c own cc E A nL) (F : Fx tn tt A s) {a : Nat} {nm C : String} {T : u_T} {N ci index : Nat} {fs : List Value} (q0 : Nat) (he : ws[q0]? = some (a, .inr (ci, fs))) (hc : vwCl[ci]? = some (C, T, N)) (hl : Cond.classLink own index nm ∈ tbl) (hy : (C, nm) ∈ cNo) (hdg : decode cc pc = .ok (.instanceof index, 3)) (kk : J p l e R s m args below meth c E A nL Q ws lo (pc + 3) (.int 0 :: st)) : J p l e R s m args below meth c E A nL Q ws lo pc (.ref a :: st) := fun H locs ls hP hD hS hL =>
  va_instNo X.1 X.2.1 X.2.2.2.1 (X.2.2.2.2.1 _ hl) (F.2.2.2.2.1 _ hy) (va_recv X.2.2.2.2.2.1 hP hc he) hdg (kk H locs ls hP hD hS hL)
theorem j_inS (X : CX p s m args c own cc E A nL) {a : Nat} {C : String} {T : u_T} {N ci index : Nat} {fs : List Value} (q0 : Nat) (he : ws[q0]? = some (a, .inr (ci, fs))) (hc : vwCl[ci]? = some (C, T, N)) (hl : Cond.classLink own index C ∈ tbl) (hdg : decode cc pc = .ok (.instanceof index, 3)) (kk : J p l e R s m args below meth c E A nL Q ws lo (pc + 3) (.int 1 :: st)) : J p l e R s m args below meth c E A nL Q ws lo pc (.ref a :: st) := fun H locs ls hP hD hS hL =>
  va_instS X.1 X.2.1 X.2.2.2.1 (X.2.2.2.2.1 _ hl) (X.2.2.2.2.2.1.1 ci _ hc).2 (va_recv X.2.2.2.2.2.1 hP hc he) hdg (kk H locs ls hP hD hS hL)
end JF
