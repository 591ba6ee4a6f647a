theorem lh_pad {ls : Array Slot} {n : Nat} {lo : List (Option Value)} (k : Nat) (h : lh ls n lo) : lh ls n (lo ++ List.replicate k none) := lh_more h (fun i v hi => by
  by_cases hl : i < lo.length
  · rw [List.getElem?_append_left hl] at hi; exact hi
  · rw [List.getElem?_append_right (by omega)] at hi
    have := List.mem_of_getElem? hi
    simp at this)
theorem ct_start {E : Ev} {y : MethodName} {cd : ByteArray} {nL : Nat} {ret : Option FieldType} {rm : Room} {ws ws' : va_W} {as : List Value} {v : Option Value} (own : String) (k : Nat) (hy : plainName y.cls = true) (hyo : y.cls = own) (hn : (lg_sl as).length ≤ nL)
    (body : ∀ (p : Program) (l : Launch) (e : Env) (s : State) (m : MethodId) (args : Array Value) (below : List Frame) (meth : Method) (c : Code) (A : Nat → Prop) (Q : State → Prop), CX p s m args c own cd E A nL → meth.sig.returnType = ret → meth.locks = false → Q = MQ below (QG E A ws' v) args s 0 0 A →
      J p l e rm s m args below meth c E A nL Q ws (loE as ++ List.replicate k none) 0 []) : Ct E y cd nL ret rm ws ws' as v := by
  intro l sz
  refine Met.ofW (cc := cd) (maxL := nL) (ret := ret) hy rfl ?_
  intro p e s m args below meth c s₁ B hml hv
  obtain ⟨rfl, hsz, hP, hK, hD0⟩ := hv
  have hts := atoms_spec (ws := Cond.code y cd nL ret :: tbl) B.pre
  have hown : s.vm.findClass own = some m.cls := hyo ▸ findClass_of_methodNamed B.named
  subst hsz
  have hD := hD0.self (sz := s.heap.size)
  rw [lg_entry_eq]
  exact body p l e s m as.toArray below meth c (va_A ws s.heap.size) _ ⟨B.exec, B.bytes, hml, hown, fun w hw => hts w (List.mem_cons_of_mem _ hw), hK, fun q h => Or.inr h⟩ B.returns B.notSynchronized rfl s.heap [] _ hP hD va_S.rf (lh_pad k (lh_entry as hn))
theorem fb_ct {E : Ev} {ws : va_W} {as : List Value} {sz : Nat} : FrameBlind (va_Pc as (fun U => U.heap.size = sz ∧ va_P E.1 vwCl ws U.heap ∧ va_K E.1 vwCl (tysOf E) U ∧ va_D (fun _ => True) ws)) := by
  intro a U g mk q
  obtain ⟨q0, q1, qP, qK, qD⟩ := q
  exact ⟨q0, q1, qP, va_K.moved (u := U) (U := U.calling g mk a) (Vm.Alike.refl U.vm) qK, qD⟩
theorem subC {D : va_G} {cl : List vw_C} {ws wc : va_W} {H : Heap} (is : List Nat) (hC : is.map (fun i => ws[i]?) = wc.map some) (hP : va_P D cl ws H) : va_P D cl wc H := by
  intro k q hk
  have h1 : (is.map (fun i => ws[i]?))[k]? = some (some q) := by rw [hC, List.getElem?_map, hk]; rfl
  rw [List.getElem?_map] at h1
  cases hi : is[k]? with
  | none => rw [hi] at h1; cases h1
  | some i => rw [hi] at h1; exact hP i q (Option.some.inj h1)
theorem nb01 {v : Int32} (h : v = 0 ∨ v = 1) : narrow .boolean (.int v) = .int v := by rcases h with rfl | rfl <;> rfl
def fuel0 : Nat := 100000
def inb (i : Int32) (n : Nat) : Bool := decide (0 ≤ i.toInt ∧ i.toInt < n)
theorem oi_in {i : Int32} {n : Nat} {β : Type} {x : Option β} {y : β} (h : (if inb i n = true then x else none) = some y) : vp_in i n ∧ x = some y := by
  obtain ⟨h1, h2⟩ := oi_t h
  exact ⟨vp_in_iff.mpr (by simpa [inb] using h1), h2⟩
def sub (P : List Nat) (μ : Mem) : Mem := fun j => μ (P.getD j 0)
def ixO : List Nat → Nat → Nat → Option Nat
  | [], _, _ => none
  | p :: P, k, a => if a = p then some k else ixO P (k + 1) a
def put (P : List Nat) (μ ν : Mem) : Mem := fun a => match ixO P 0 a with
  | some j => ν j
  | none => μ a
/-- what a copy of a row's part asks -/
def inc (sp dp n : Int32) (n0 n1 : Nat) : Bool := decide (¬ sp < 0 ∧ ¬ dp < 0 ∧ ¬ n < 0 ∧ sp.toNatClampNeg + n.toNatClampNeg ≤ n0 ∧ dp.toNatClampNeg + n.toNatClampNeg ≤ n1)
def incb (f : Nat → Int32) (sp dp n : Int32) (n0 n1 : Nat) : Bool := inc sp dp n n0 n1 && (List.range n.toNatClampNeg).all (fun i => fits .byte (.int (f (sp.toNatClampNeg + i))))
theorem oi_cp {sp dp n : Int32} {n0 n1 : Nat} {β : Type} {x : Option β} {y : β} (h : (if inc sp dp n n0 n1 = true then x else none) = some y) : (¬ sp < 0 ∧ ¬ dp < 0 ∧ ¬ n < 0 ∧ sp.toNatClampNeg + n.toNatClampNeg ≤ n0 ∧ dp.toNatClampNeg + n.toNatClampNeg ≤ n1) ∧ x = some y := by
  obtain ⟨h1, h2⟩ := oi_t h
  exact ⟨of_decide_eq_true h1, h2⟩
theorem oi_cpb {f : Nat → Int32} {sp dp n : Int32} {n0 n1 : Nat} {β : Type} {x : Option β} {y : β} (h : (if incb f sp dp n n0 n1 = true then x else none) = some y) : (¬ sp < 0 ∧ ¬ dp < 0 ∧ ¬ n < 0 ∧ sp.toNatClampNeg + n.toNatClampNeg ≤ n0 ∧ dp.toNatClampNeg + n.toNatClampNeg ≤ n1 ∧ ∀ i, i < n.toNatClampNeg → fits .byte (.int (f (sp.toNatClampNeg + i))) = true) ∧ x = some y := by
  obtain ⟨h1, h2⟩ := oi_t h
  unfold incb at h1
  obtain ⟨h3, h4⟩ := Bool.and_eq_true_iff.mp h1
  obtain ⟨a, b, c, d, e⟩ := of_decide_eq_true h3
  exact ⟨⟨a, b, c, d, e, fun i hi => List.all_eq_true.mp h4 i (List.mem_range.mpr hi)⟩, h2⟩
theorem fb01 {v : Int32} (h : v = 0 ∨ v = 1) : fits .boolean (.int v) = true := by rcases h with rfl | rfl <;> rfl
section JC
variable {p : Program} {l : Launch} {e : Env} {R : Room} {s : State} {m : MethodId} {args : Array Value} {below : List Frame} {meth : Method} {c : Code} {E : Ev} {A : Nat → Prop} {nL : Nat} {Q : State → Prop} {ws : va_W} {lo : List (Option Value)} {pc : Nat} {st : List Value} {own : String} {cc : ByteArray}
theorem q_ret {H : Heap} {locs : List Loc} {v : Option Value} (X : CX p s m args c own cc E A nL) (hP : va_P E.1 vwCl ws H) (hD : va_D A ws) (hS : va_S A s.heap H locs) (t : State) (ht : t.heap = H) (hW : s.WarmedH t.vm) : QG E A ws v args s (.returned v) t :=
  ⟨⟨rfl, by rw [ht]; exact hP, va_K.moved hW.alike X.2.2.2.2.2.1, hD⟩, hS.F ht⟩
theorem j_iret (X : CX p s m args c own cc E A nL) {v : Int32} {ty : FieldType} (hr : meth.sig.returnType = some ty) (hlk : meth.locks = false) (hn : narrow ty (.int v) = .int v) (hdg : decode cc pc = .ok (.ireturn, 1)) (hQ : Q = MQ below (QG E A ws (some (.int v))) args s 0 0 A) : J p l e R s m args below meth c E A nL Q ws lo pc [.int v] :=
  fun H locs ls hP hD hS hL => hQ ▸ W.zret X.1 X.2.1 hr hn (q_ret X hP hD hS) hS.2.2 hdg hlk
theorem j_lret (X : CX p s m args c own cc E A nL) {v : Int64} (hr : meth.sig.returnType = some .long) (hlk : meth.locks = false) (hdg : decode cc pc = .ok (.lreturn, 1)) (hQ : Q = MQ below (QG E A ws (some (.long v))) args s 0 0 A) : J p l e R s m args below meth c E A nL Q ws lo pc [.long v] :=
  fun H locs ls hP hD hS hL => hQ ▸ W.lret X.1 X.2.1 hr (q_ret X hP hD hS) hS.2.2 hdg hlk
theorem j_vret (X : CX p s m args c own cc E A nL) (hr : meth.sig.returnType = none) (hlk : meth.locks = false) (hdg : decode cc pc = .ok (.return_, 1)) (hQ : Q = MQ below (QG E A ws none) args s 0 0 A) : J p l e R s m args below meth c E A nL Q ws lo pc [] :=
  fun H locs ls hP hD hS hL => hQ ▸ W.vret X.1 X.2.1 hr (q_ret X hP hD hS) hS.2.2 hdg hlk
theorem j_aret (X : CX p s m args c own cc E A nL) {v : Nat} {cn : String} (hr : meth.sig.returnType = some (.object cn)) (hlk : meth.locks = false) (hdg : decode cc pc = .ok (.areturn, 1)) (hQ : Q = MQ below (QG E A ws (some (.ref v))) args s 0 0 A) : J p l e R s m args below meth c E A nL Q ws lo pc [.ref v] :=
  fun H locs ls hP hD hS hL => hQ ▸ W.aret X.1 X.2.1 hr (Or.inl ⟨_, rfl⟩) (Or.inr ⟨_, rfl⟩) (q_ret X hP hD hS) hS.2.2 hdg hlk
theorem w_call {H : Heap} {locs : List Loc} {ls : Array Slot} {v : Option Value} {wc wc' : va_W} {rest st0 : List Value} {a : Array Value} (X : CX p s m args c own cc E A nL) (hP : va_P E.1 vwCl ws H) (hD : va_D A ws) (hS : va_S A s.heap H locs) (hL : lh ls nL lo) (is : List Nat) (hC : is.map (fun i => ws[i]?) = wc.map some) (hn : va_nd is = true) (hlen : is.length = wc'.length) {ws' : va_W} (hW : putW ws is wc' = ws')
    (hr : va_Run p l e R s m args below meth c H locs 0 0 0 0 (F0 m pc ls st0) rest (QG E (va_A wc H.size) wc' v a) (va_A wc H.size)) (kk : J p l e R s m args below meth c E A nL Q ws' lo (pc + 3) (v.toList ++ rest)) : W p l e R s m args below meth c H locs 0 0 Q (F0 m pc ls st0) := by
  intro T hT Xs
  obtain ⟨v', st₀, t, T', L, h0, X', hL', e1, e2, ⟨⟨hv, hp1, hk1, hd1⟩, hz, hk⟩, st⟩ := hr T hT Xs
  have hv' : v' = v := by cases hv; rfl
  subst hv'
  rw [h0] at hz hk
  have hF := va_free hD hS X.2.2.2.2.2.2 is hC
  obtain ⟨P2, D2⟩ := putW_join hP hD is hC hn hlen (H1 := T'.heap) (fun q h1 h2 => by rw [e1]; exact hk q h1 h2) hF (by rw [e1]; exact hp1) hd1
  rw [hW] at P2 D2
  have hS2 : va_S A s.heap T'.heap (locs ++ L) := ⟨Nat.le_trans hS.1 (by rw [e1]; exact hz), fun q h1 h2 => by rw [e1, hk q (Nat.lt_of_lt_of_le h1 hS.1) (fun z => h2 (hF q z))]; exact hS.2.1 q h1 h2, fun q hq => by
      rcases List.mem_append.mp hq with h | h
      · exact hS.2.2 q h
      · exact hF _ (hL' q h)⟩
  obtain ⟨t2, a1, b1⟩ := kk T'.heap (locs ++ L) ls P2 D2 hS2 hL T' rfl X'
  exact ⟨t2, st t2 a1, b1⟩
theorem pre_v {H : Heap} {wc : va_W} {As : List Value} {b : Nat} {C : String} {T : u_T} {N ci r0 : Nat} {fs : List Value} (X : CX p s m args c own cc E A nL) (hP : va_P E.1 vwCl ws H) (hD : va_D A ws) (is : List Nat) (hC : is.map (fun i => ws[i]?) = wc.map some) (hn : va_nd is = true) (he : wc[r0]? = some (b, .inr (ci, fs))) (hc : vwCl[ci]? = some (C, T, N)) :
    PreV s H C b (va_Pc (.ref b :: As) (fun U => U.heap.size = H.size ∧ va_P E.1 vwCl wc U.heap ∧ va_K E.1 vwCl (tysOf E) U ∧ va_D (fun _ => True) wc)) As :=
  ⟨fb_ct, va_recv X.2.2.2.2.2.1 (subC is hC hP) hc he, fun U hU hW => ⟨rfl, by rw [hU], by rw [hU]; exact subC is hC hP, va_K.moved hW.alike X.2.2.2.2.2.1, (hD.sub is hn hC).weaken (fun _ _ _ _ => trivial)⟩⟩
theorem pre_s {H : Heap} {wc : va_W} {As : List Value} (X : CX p s m args c own cc E A nL) (hP : va_P E.1 vwCl ws H) (hD : va_D A ws) (is : List Nat) (hC : is.map (fun i => ws[i]?) = wc.map some) (hn : va_nd is = true) :
    PreS s H (va_Pc As (fun U => U.heap.size = H.size ∧ va_P E.1 vwCl wc U.heap ∧ va_K E.1 vwCl (tysOf E) U ∧ va_D (fun _ => True) wc)) As :=
  ⟨fb_ct, fun U hU hW => ⟨rfl, by rw [hU], by rw [hU]; exact subC is hC hP, va_K.moved hW.alike X.2.2.2.2.2.1, (hD.sub is hn hC).weaken (fun _ _ _ _ => trivial)⟩⟩
/-- a method of the receiver's own class -/
theorem j_callV (X : CX p s m args c own cc E A nL) {y : MethodName} {cd : ByteArray} {mL index n : Nat} {ret : Option FieldType} {rm : Room} {wc wc' ws' : va_W} {b : Nat} {As rest : List Value} {v : Option Value} {C : String} {T : u_T} {N ci : Nat} {fs : List Value} (is : List Nat) (r0 : Nat) (K : Ct E y cd mL ret rm wc wc' (.ref b :: As) v)
    (hC : is.map (fun i => ws[i]?) = wc.map some) (hn : va_nd is = true) (hlen : is.length = wc'.length) (hW : putW ws is wc' = ws') (he : wc[r0]? = some (b, .inr (ci, fs))) (hc : vwCl[ci]? = some (C, T, N))
    (k1 : Cond.methodLink own index y ∈ tbl) (k2 : Cond.instanceMethod y ∈ tbl) (k3 : Cond.selects C y y ∈ tbl) (k4 : Cond.initialized C ∈ tbl) (k5 : Cond.code y cd mL ret ∈ tbl) (hrm : rm.cells = 0 ∧ rm.slots = 0)
    (hd : y.cls = C ∧ y.cls ≠ "java/lang/invoke/MethodHandle" ∧ y.cls ≠ "java/lang/invoke/VarHandle" ∧ (parseMethodDescriptor y.desc).map (fun d => d.parameters.length) = some n) (hR : rm.frames + 1 ≤ R.frames ∧ 8 + (mL + 11) + rm.locals ≤ R.locals) (hAs : As.length = n) (hsum : (rest.map fun v => v.category).sum ≤ 8) (hst : st = As.reverse ++ .ref b :: rest) (hdg : decode cc pc = .ok (.invokevirtual index, 3))
    (kk : J p l e R s m args below meth c E A nL Q ws' lo (pc + 3) (v.toList ++ rest)) : J p l e R s m args below meth c E A nL Q ws lo pc st := by
  intro H locs ls hP hD hS hL
  exact w_call X hP hD hS hL is hC hn hlen hW (va_runV (Ts := tbl) ⟨X.1, X.2.1, X.2.2.1, X.2.2.2.1, X.2.2.2.2.1⟩ (K l H.size) (cwV n X.2.2.2.2.1 (gi_app (m4 k1 k2 k3 k4) k5) rfl hrm.1 hrm.2 hd hR) (pre_v X hP hD is hC hn he hc) rfl hAs hL.1 hst (lv_room hsum) hdg ⟨Nat.zero_le _, Nat.zero_le _⟩) kk
/-- a static method -/
theorem j_callS (X : CX p s m args c own cc E A nL) {y : MethodName} {cd : ByteArray} {mL index n : Nat} {ret : Option FieldType} {rm : Room} {wc wc' ws' : va_W} {As rest : List Value} {v : Option Value} (is : List Nat) (K : Ct E y cd mL ret rm wc wc' As v)
    (hC : is.map (fun i => ws[i]?) = wc.map some) (hn : va_nd is = true) (hlen : is.length = wc'.length) (hW : putW ws is wc' = ws')
    (k1 : Cond.methodLink own index y ∈ tbl) (k2 : Cond.static y ∈ tbl) (k3 : Cond.initialized y.cls ∈ tbl) (k5 : Cond.code y cd mL ret ∈ tbl) (hrm : rm.cells = 0 ∧ rm.slots = 0)
    (hd : y.cls ≠ "java/lang/invoke/MethodHandle" ∧ y.cls ≠ "java/lang/invoke/VarHandle" ∧ (parseMethodDescriptor y.desc).map (fun d => d.parameters.length) = some n) (hR : rm.frames + 1 ≤ R.frames ∧ 8 + (mL + 11) + rm.locals ≤ R.locals) (hAs : As.length = n) (hsum : (rest.map fun v => v.category).sum ≤ 8) (hst : st = As.reverse ++ rest) (hdg : decode cc pc = .ok (.invokestatic index, 3))
    (kk : J p l e R s m args below meth c E A nL Q ws' lo (pc + 3) (v.toList ++ rest)) : J p l e R s m args below meth c E A nL Q ws lo pc st := by
  intro H locs ls hP hD hS hL
  have hG : GoodIn tbl (Cond.code y cd mL ret :: tbl) := gi_app (ws := []) (fun _ h => by cases h) k5
  have cw : CallB R s args own index y cd mL ret (Cond.code y cd mL ret :: tbl) rm 0 0 n := callB_of n X.2.2.2.2.1 hG rfl hrm.1 hrm.2 (X.2.2.2.2.1 _ k3) (X.2.2.2.2.1 _ k1) hd hR
  exact w_call X hP hD hS hL is hC hn hlen hW (va_runS (Ts := tbl) ⟨X.1, X.2.1, X.2.2.1, X.2.2.2.1, X.2.2.2.2.1⟩ (K l H.size) ⟨cw, X.2.2.2.2.1 _ k2⟩ (pre_s X hP hD is hC hn) rfl hAs hL.1 hst (lv_room hsum) hdg ⟨Nat.zero_le _, Nat.zero_le _⟩) kk
/-- super.y(..) -/
theorem j_callSU (X : CX p s m args c own cc E A nL) {y : MethodName} {cd : ByteArray} {mL index n : Nat} {ret : Option FieldType} {rm : Room} {wc wc' ws' : va_W} {b : Nat} {As rest : List Value} {v : Option Value} {C : String} {T : u_T} {N ci : Nat} {fs : List Value} (is : List Nat) (r0 : Nat) (K : Ct E y cd mL ret rm wc wc' (.ref b :: As) v)
    (hC : is.map (fun i => ws[i]?) = wc.map some) (hn : va_nd is = true) (hlen : is.length = wc'.length) (hW : putW ws is wc' = ws') (he : wc[r0]? = some (b, .inr (ci, fs))) (hc : vwCl[ci]? = some (C, T, N))
    (k1 : Cond.methodLink own index y ∈ tbl) (k2 : Cond.sameMethod y.cls y.cls y.name y.desc ∈ tbl) (k3 : Cond.superclass own y.cls ∈ tbl) (k4 : Cond.instanceMethod y ∈ tbl) (k6 : Cond.initialized y.cls ∈ tbl) (k5 : Cond.code y cd mL ret ∈ tbl) (hrm : rm.cells = 0 ∧ rm.slots = 0)
    (hd : y.name ≠ "<init>" ∧ (parseMethodDescriptor y.desc).map (fun d => d.parameters.length) = some n) (hR : rm.frames + 1 ≤ R.frames ∧ 8 + (mL + 11) + rm.locals ≤ R.locals) (hAs : As.length = n) (hsum : (rest.map fun v => v.category).sum ≤ 8) (hst : st = As.reverse ++ .ref b :: rest) (hdg : decode cc pc = .ok (.invokespecial index, 3))
    (kk : J p l e R s m args below meth c E A nL Q ws' lo (pc + 3) (v.toList ++ rest)) : J p l e R s m args below meth c E A nL Q ws lo pc st := by
  intro H locs ls hP hD hS hL
  exact w_call X hP hD hS hL is hC hn hlen hW (va_runSU (Ts := tbl) (X.2.2.2.2.2.1.1 ci _ hc).2 ⟨X.1, X.2.1, X.2.2.1, X.2.2.2.1, X.2.2.2.2.1⟩ (K l H.size) (va_cwSU n X.2.2.2.2.1 (gi_app (m5 k1 k2 k3 k4 k6) k5) rfl hrm.1 hrm.2 hd hR) (pre_v X hP hD is hC hn he hc) rfl hAs hL.1 hst (lv_room hsum) hdg ⟨Nat.zero_le _, Nat.zero_le _⟩) kk
/-- a method that the receiver's class inherits -/
theorem j_callU (X : CX p s m args c own cc E A nL) {x y : MethodName} {owner : String} {cd : ByteArray} {mL index n : Nat} {ret : Option FieldType} {rm : Room} {wc wc' ws' : va_W} {b : Nat} {As rest : List Value} {v : Option Value} {C : String} {T : u_T} {N ci : Nat} {fs : List Value} (is : List Nat) (r0 : Nat) (K : Ct E y cd mL ret rm wc wc' (.ref b :: As) v)
    (hC : is.map (fun i => ws[i]?) = wc.map some) (hn : va_nd is = true) (hlen : is.length = wc'.length) (hW : putW ws is wc' = ws') (he : wc[r0]? = some (b, .inr (ci, fs))) (hc : vwCl[ci]? = some (C, T, N))
    (k1 : Cond.methodLink own index x ∈ tbl) (k2 : Cond.sameMethod x.cls owner x.name x.desc ∈ tbl) (k3 : Cond.selects C x y ∈ tbl) (k4 : Cond.instanceMethod y ∈ tbl) (k6 : Cond.initialized y.cls ∈ tbl) (k5 : Cond.code y cd mL ret ∈ tbl) (hrm : rm.cells = 0 ∧ rm.slots = 0)
    (hyx : y = ⟨owner, x.name, x.desc⟩) (hd : owner ≠ "java/lang/invoke/MethodHandle" ∧ owner ≠ "java/lang/invoke/VarHandle" ∧ (parseMethodDescriptor x.desc).map (fun d => d.parameters.length) = some n) (hR : rm.frames + 1 ≤ R.frames ∧ 8 + (mL + 11) + rm.locals ≤ R.locals) (hAs : As.length = n) (hsum : (rest.map fun v => v.category).sum ≤ 8) (hst : st = As.reverse ++ .ref b :: rest) (hdg : decode cc pc = .ok (.invokevirtual index, 3))
    (kk : J p l e R s m args below meth c E A nL Q ws' lo (pc + 3) (v.toList ++ rest)) : J p l e R s m args below meth c E A nL Q ws lo pc st := by
  intro H locs ls hP hD hS hL
  exact w_call X hP hD hS hL is hC hn hlen hW (va_runU (Ts := tbl) ⟨X.1, X.2.1, X.2.2.1, X.2.2.2.1, X.2.2.2.2.1⟩ (K l H.size) (va_cwU n X.2.2.2.2.1 (gi_app (m5 k1 k2 k3 k4 k6) k5) rfl hrm.1 hrm.2 hyx hd hR) (pre_v X hP hD is hC hn he hc) rfl hAs hL.1 hst (lv_room hsum) hdg ⟨Nat.zero_le _, Nat.zero_le _⟩) kk
/-- a method that overrides the one that the reference names -/
theorem j_callO (X : CX p s m args c own cc E A nL) {x y : MethodName} {owner : String} {cd : ByteArray} {mL index n : Nat} {ret : Option FieldType} {rm : Room} {wc wc' ws' : va_W} {b : Nat} {As rest : List Value} {v : Option Value} {C : String} {T : u_T} {N ci : Nat} {fs : List Value} (is : List Nat) (r0 : Nat) (K : Ct E y cd mL ret rm wc wc' (.ref b :: As) v)
    (hC : is.map (fun i => ws[i]?) = wc.map some) (hn : va_nd is = true) (hlen : is.length = wc'.length) (hW : putW ws is wc' = ws') (he : wc[r0]? = some (b, .inr (ci, fs))) (hc : vwCl[ci]? = some (C, T, N))
    (k1 : Cond.methodLink own index x ∈ tbl) (k2 : Cond.sameMethod x.cls owner x.name x.desc ∈ tbl) (k7 : Cond.instanceMethod ⟨owner, x.name, x.desc⟩ ∈ tbl) (k3 : Cond.selects C x y ∈ tbl) (k4 : Cond.instanceMethod y ∈ tbl) (k6 : Cond.initialized y.cls ∈ tbl) (k5 : Cond.code y cd mL ret ∈ tbl) (hrm : rm.cells = 0 ∧ rm.slots = 0) {b0 : ByteArray} {m0 : Nat} {r1 : Option FieldType} (k8 : Cond.code ⟨owner, x.name, x.desc⟩ b0 m0 r1 ∈ tbl)
    (hd : owner ≠ "java/lang/invoke/MethodHandle" ∧ owner ≠ "java/lang/invoke/VarHandle" ∧ (parseMethodDescriptor x.desc).map (fun d => d.parameters.length) = some n) (hR : rm.frames + 1 ≤ R.frames ∧ 8 + (mL + 11) + rm.locals ≤ R.locals) (hAs : As.length = n) (hsum : (rest.map fun v => v.category).sum ≤ 8) (hst : st = As.reverse ++ .ref b :: rest) (hdg : decode cc pc = .ok (.invokevirtual index, 3))
    (kk : J p l e R s m args below meth c E A nL Q ws' lo (pc + 3) (v.toList ++ rest)) : J p l e R s m args below meth c E A nL Q ws lo pc st := by
  intro H locs ls hP hD hS hL
  exact w_call X hP hD hS hL is hC hn hlen hW (va_runU (Ts := tbl) ⟨X.1, X.2.1, X.2.2.1, X.2.2.2.1, X.2.2.2.2.1⟩ (K l H.size) (va_cwO n X.2.2.2.2.1 (gi_app (m6 k1 k2 k7 k3 k4 k6) k5) rfl hrm.1 hrm.2 k8 hd hR) (pre_v X hP hD is hC hn he hc) rfl hAs hL.1 hst (lv_room hsum) hdg ⟨Nat.zero_le _, Nat.zero_le _⟩) kk
theorem j_stk {st' : List Value} (h : st = st') (kk : J p l e R s m args below meth c E A nL Q ws lo pc st') : J p l e R s m args below meth c E A nL Q ws lo pc st := h ▸ kk
end JC
