/-! what constructors ask of the tables beside tbl: nest mates' private constructors, array classes, kinds under Stander -/
def nestL : List (String × Nat × MethodName × String) := [(RX11, 9, yX7_init, RX11), (RX11, 12, yX0_init, RX11), (RX11, 15, yX2_init, RX11), (RX11, 18, yX8_init, RX11), (RX11, 21, yX3_init, RX11), (RX11, 24, yX10_init, RX11), (RX11, 27, yX9_init, RX11), (RX0, 1, yX7_init, RX11), (RX2, 1, yX7_init, RX11), (RX8, 1, yX7_init, RX11), (RX9, 1, yX7_init, RX11), (RX3, 1, yX0_init, RX11), (RX10, 1, yX2_init, RX11)]
def subS : List String := [RX0, RX2, RX8, RX3, RX10, RX9]
def FN (U : State) : Prop := (∀ q ∈ nestL, va_Nw (.methodLinkNest q.1 q.2.1 q.2.2.1 q.2.2.2) U) ∧ (∀ c ∈ subS, va_Nw (.castable c "StandStill$Stander") U) ∧ va_AO "StandStill$Stander" U ∧ va_AO "StandStill$Row" U ∧ ∃ cII : ClassId, (∃ (k : Class) (comp : ClassId), U.vm.classes[cII]? = some k ∧ k.kind = .array comp (.array .int) ∧ U.vm.findClass "[I" = some comp ∧ U.vm.findClass "[[I" = some cII)
theorem FN.go {s U : State} (h : FN s) (hW : s.WarmedH U.vm) : FN U := by
  obtain ⟨h1, h2, h3, h4, cII, k, comp, g1, g2, g3, g4⟩ := h
  obtain ⟨k', hk', he⟩ := hW.alike.2.2 _ _ g1
  exact ⟨fun q hq => va_Nw.warmM hW (h1 q hq), fun c hc => va_Nw.warmC hW (h2 c hc), h3.moved hW.alike, h4.moved hW.alike, cII, k', comp, hk', by rw [he]; exact g2, by rw [hW.alike.findClass]; exact g3, by rw [hW.alike.findClass]; exact g4⟩
theorem FN.same {s U : State} (h : FN s) (hv : s.vm = U.vm) : FN U := by
  obtain ⟨h1, h2, h3, h4, cII, k, comp, g1, g2, g3, g4⟩ := h
  refine ⟨fun q hq => (h1 q hq).same rfl hv, fun c hc => (h2 c hc).same rfl hv, h3.moved (by rw [hv]; exact Vm.Alike.refl U.vm), h4.moved (by rw [hv]; exact Vm.Alike.refl U.vm), cII, k, comp, ?_⟩
  rw [← hv]
  exact ⟨g1, g2, g3, g4⟩
/-- behind a constructor: its cell and what it made, at addresses q -/
def QI (E : Ev) (A : Nat → Prop) (w1 : (Nat → Nat) → va_W) : Array Value → State → Outcome → State → Prop := fun _ st oc t => (oc = .returned none ∧ ∃ q : Nat → Nat, va_P E.1 vwCl (w1 q) t.heap ∧ va_K E.1 vwCl (tysOf E) t ∧ va_D A (w1 q)) ∧ va_F A st t
def CtN (E : Ev) (y : MethodName) (cd : ByteArray) (nL : Nat) (rm : Room) (wc : va_W) (w1 : (Nat → Nat) → va_W) (as : List Value) (mc ms : Nat) : Prop :=
  ∀ (l : Launch) (sz : Nat), Met l y (.code y cd nL none :: tbl) rm (va_Pc as (fun U => U.heap.size = sz ∧ va_P E.1 vwCl wc U.heap ∧ va_K E.1 vwCl (tysOf E) U ∧ va_D (fun _ => True) wc ∧ FN U)) (QI E (va_A wc sz) w1) mc ms (va_A wc sz)
abbrev rmN (f mc ms lo : Nat) : Room := { frames := f, cells := mc, slots := ms, locals := lo }
theorem ctN_start {E : Ev} {y : MethodName} {cd : ByteArray} {nL : Nat} {rm : Room} {wc : va_W} {w1 : (Nat → Nat) → va_W} {as : List Value} {mc ms : Nat} (own : String) (k : Nat) (hy : plainName y.cls = true) (hyo : y.cls = own) (hyi : y.name = "<init>") (hn : (lg_sl as).length ≤ nL)
    (body : ∀ (p : Program) (l : Launch) (e : Env) (s : State) (m : MethodId) (args : Array Value) (below : List Frame) (meth : Method) (c : Code) (A : Nat → Prop) (Q : State → Prop), CX p s m args c own cd E A nL → FN s → meth.name = "<init>" → meth.sig.returnType = none → meth.locks = false → Q = MQ below (QI E A w1) args s mc ms A →
      JN p l e rm s m args below meth c E A nL Q 0 0 wc (loE as ++ List.replicate k none) 0 []) : CtN E y cd nL rm wc w1 as mc ms := by
  intro l sz
  refine Met.ofW (cc := cd) (maxL := nL) (ret := none) hy rfl ?_
  intro p e s m args below meth c s₁ B hml hv
  obtain ⟨rfl, hsz, hP, hK, hD0, hF⟩ := hv
  have hts := atoms_spec (ws := Cond.code y cd nL none :: tbl) B.pre
  have hown : s.vm.findClass own = some m.cls := hyo ▸ findClass_of_methodNamed B.named
  have hin : meth.name = "<init>" := (name_of_methodNamed B.named B.method).1.trans hyi
  subst hsz
  have hD := hD0.self (sz := s.heap.size)
  rw [lg_entry_eq]
  exact body p l e s m as.toArray below meth c (va_A wc s.heap.size) _ ⟨B.exec, B.bytes, hml, hown, fun w hw => hts w (List.mem_cons_of_mem _ hw), hK, fun q h => Or.inr h⟩ hF hin B.returns B.notSynchronized rfl s.heap [] _ hP hD va_S.rf (lh_pad k (lh_entry as hn))
theorem fb_ctN {E : Ev} {ws : va_W} {as : List Value} {sz : Nat} : FrameBlind (va_Pc as (fun U => U.heap.size = sz ∧ va_P E.1 vwCl ws U.heap ∧ va_K E.1 vwCl (tysOf E) U ∧ va_D (fun _ => True) ws ∧ FN U)) := by
  intro a U g mk q
  obtain ⟨q0, q1, qP, qK, qD, qF⟩ := q
  exact ⟨q0, q1, qP, va_K.moved (u := U) (U := U.calling g mk a) (Vm.Alike.refl U.vm) qK, qD, qF.same (U := U.calling g mk a) rfl⟩
section JNA
variable {p : Program} {l : Launch} {e : Env} {R : Room} {s : State} {m : MethodId} {args : Array Value} {below : List Frame} {meth : Method} {c : Code} {E : Ev} {A : Nat → Prop} {nL : Nat} {Q : State → Prop} {ws : va_W} {lo : List (Option Value)} {pc : Nat} {st : List Value} {own : String} {cc : ByteArray} {cn sn : Nat}
theorem n_vret (X : CX p s m args c own cc E A nL) (hr : meth.sig.returnType = none) (hlk : meth.locks = false) {w1 : (Nat → Nat) → va_W} (q : Nat → Nat) (hw : w1 q = ws) (hdg : decode cc pc = .ok (.return_, 1)) (hQ : Q = MQ below (QI E A w1) args s cn sn A) : JN p l e R s m args below meth c E A nL Q cn sn ws lo pc [] := fun H locs ls hP hD hS hL => by
  rw [hQ]
  subst hw
  exact W.vret X.1 X.2.1 hr (fun t ht hW => ⟨⟨rfl, q, by rw [ht]; exact hP, va_K.moved hW.alike X.2.2.2.2.2.1, hD⟩, hS.F ht⟩) hS.2.2 hdg hlk
theorem n_perm {ws' : va_W} (ps : List Nat) (hn : va_nd ps = true) (hs : ps.map (fun i => ws[i]?) = ws'.map some) (kk : JN p l e R s m args below meth c E A nL Q cn sn ws' lo pc st) : JN p l e R s m args below meth c E A nL Q cn sn ws lo pc st :=
  fun H locs ls hP hD hS hL => kk H locs ls (subC ps hs hP) (hD.sub ps hn hs) hS hL
theorem n_widen {k n : Nat} (h1 : cn ≤ k) (h2 : sn ≤ n) (kk : JN p l e R s m args below meth c E A nL Q k n ws lo pc st) : JN p l e R s m args below meth c E A nL Q cn sn ws lo pc st :=
  fun H locs ls hP hD hS hL => W.widen h1 h2 (kk H locs ls hP hD hS hL)
theorem n_objInit (X : CX p s m args c own cc E A nL) {a idx : Nat} (h1 : Cond.methodLink own idx Lib.objectInit ∈ tbl) (h2 : Cond.instanceMethod Lib.objectInit ∈ tbl) (h3 : Cond.code Lib.objectInit ⟨#[0xb1]⟩ 1 none ∈ tbl) (hf : 1 ≤ R.frames) (hlo : (st.map fun v => v.category).sum + 12 ≤ R.locals) (hdg : decode cc pc = .ok (.invokespecial idx, 3))
    (kk : JN p l e R s m args below meth c E A nL Q cn sn ws lo (pc + 3) st) : JN p l e R s m args below meth c E A nL Q cn sn ws lo pc (.ref a :: st) := fun H locs ls hP hD hS hL =>
  W.objInit X.1 X.2.1 X.2.2.2.1 (X.2.2.2.2.1 _ h1) (X.2.2.2.2.1 _ h2) (X.2.2.2.2.1 _ h3) rfl (hL.1.trans X.2.2.1.symm) rfl hdg hf (by show 2 * 0 + _ + 12 ≤ _; omega) (kk H locs ls hP hD hS hL)
theorem n_putF (X : CX p s m args c own cc E A nL) (hin : meth.name = "<init>") {ref C : String} {T : u_T} {N ci index : Nat} (hi : ∀ w ∈ u_ws C T N, w ∈ tbl) {a : Nat} (q0 : Nat) {fs : List Value} (he : ws[q0]? = some (a, .inr (ci, fs))) (hc : vwCl[ci]? = some (C, T, N)) (k : Nat) (hk : k < N) (hlink : Cond.fieldLink own index ref (T k).2.1 (T k).2.2.1 ∈ tbl) (href : ref = (T k).1) (ty0 : Nat → FieldType) (hty : ∀ k, k < N → parseFieldDescriptor (T k).2.2.1 = some (ty0 k)) (hnm : ∀ a, a < N → ∀ b, b < N → a ≠ b → (T a).2.1 ≠ (T b).2.1) (hfin : (T k).2.2.2 = true) (hdecl : (T k).1 = own) {ty : FieldType} {v : Value} (hd : parseFieldDescriptor (T k).2.2.1 = some ty) (hn : narrow ty v = v) (hfit : fits ty v = true) (hl : k < fs.length) (hdg : decode cc pc = .ok (.putfield index, 3)) {ws' : va_W} (hw : ws.set q0 (a, .inr (ci, fs.set k v)) = ws')
    (kk : JN p l e R s m args below meth c E A nL Q cn sn ws' lo (pc + 3) st) : JN p l e R s m args below meth c E A nL Q cn sn ws lo pc (v :: .ref a :: st) := fun H locs ls hP hD hS hL =>
  va_putF X.1 X.2.1 X.2.2.2.2.1 hi ty0 hty hnm X.2.2.2.1 X.2.2.2.2.2.1 hP hD hS q0 he hc k hk (X.2.2.2.2.1 _ hlink) (fun _ h9 => by rw [href]; exact h9) hfin hin hdecl hd hn hfit hl hdg (fun H1 locs1 h1 h2 h3 => kk H1 locs1 ls (hw ▸ h1) (hw ▸ h2) h3 hL)
theorem k_eq {U : State} {D : va_G} {cl : List vw_C} {tys : List (ClassId × FieldType)} {cA cB : ClassId} {ty : FieldType} (h : va_K D cl (tys ++ [(cA, ty)]) U) (k : Nat) (hk : tys[k]? = some (cB, ty)) : cA = cB := by
  have hl : k < tys.length := (List.getElem?_eq_some_iff.mp hk).1
  have h1 := (h.2 tys.length (cA, ty) (by simp)).2
  have h2 := (h.2 k (cB, ty) (by rw [List.getElem?_append_left hl]; exact hk)).2
  have key : ∀ {c1 c2 : ClassId}, va_RA U c1 ty → va_RA U c2 ty → c1 = c2 := by
    intro c1 c2 a b
    cases ty with
    | object C =>
      obtain ⟨_, _, _, _, _, a4⟩ := a
      obtain ⟨_, _, _, _, _, b4⟩ := b
      exact Option.some.inj (a4.symm.trans b4)
    | _ => exact Option.some.inj (Eq.trans (Eq.symm a) b)
  exact key h1 h2
theorem n_newa (X : CX p s m args c own cc E A nL) (hw : Cond.arrayClass .int ∈ tbl) {n : Int32} (N' : Nat) (hn : ¬ n < 0) (hN : n.toNatClampNeg = N') (hb : N' * componentBytes .int ≤ 536870912) (hcells : cn + 1 ≤ R.cells) (hslots : sn + N' ≤ R.slots) (hdg : decode cc pc = .ok (.newarray .int, 2)) {ws' : Nat → va_W} (hws : ∀ q : Nat, ws ++ [(q, .inl (E.2 0, N', .inl (fun _ => 0)))] = ws' q)
    (kk : ∀ q : Nat, JN p l e R s m args below meth c E A nL Q (cn + 1) (sn + N') (ws' q) lo (pc + 2) (.ref q :: st)) : JN p l e R s m args below meth c E A nL Q cn sn ws lo pc (.int n :: st) := fun H locs ls hP hD hS hL =>
  va_newa (atype := .int) (ty := .int) X.1 X.2.1 (X.2.2.2.2.1 _ hw) rfl X.2.2.2.2.2.1 hP hD hS X.2.2.2.2.2.2 (a0 := (N', .inl (fun _ => 0))) (fun _ => rfl) hn hN hb hcells hslots hdg (fun q cA H1 h1 h2 h3 h4 => by
    have e := k_eq h1 0 rfl
    subst e
    exact kk q H1 locs ls (hws q ▸ h2) (hws q ▸ h3) h4 hL)
theorem n_newb (X : CX p s m args c own cc E A nL) (hw : Cond.arrayClass .byte ∈ tbl) {n : Int32} (N' : Nat) (hn : ¬ n < 0) (hN : n.toNatClampNeg = N') (hb : N' * componentBytes .byte ≤ 536870912) (hcells : cn + 1 ≤ R.cells) (hslots : sn + N' ≤ R.slots) (hdg : decode cc pc = .ok (.newarray .byte, 2)) {ws' : Nat → va_W} (hws : ∀ q : Nat, ws ++ [(q, .inl (E.2 1, N', .inl (fun _ => 0)))] = ws' q)
    (kk : ∀ q : Nat, JN p l e R s m args below meth c E A nL Q (cn + 1) (sn + N') (ws' q) lo (pc + 2) (.ref q :: st)) : JN p l e R s m args below meth c E A nL Q cn sn ws lo pc (.int n :: st) := fun H locs ls hP hD hS hL =>
  va_newa (atype := .byte) (ty := .byte) X.1 X.2.1 (X.2.2.2.2.1 _ hw) rfl X.2.2.2.2.2.1 hP hD hS X.2.2.2.2.2.2 (a0 := (N', .inl (fun _ => 0))) (fun _ => rfl) hn hN hb hcells hslots hdg (fun q cA H1 h1 h2 h3 h4 => by
    have e := k_eq h1 1 rfl
    subst e
    exact kk q H1 locs ls (hws q ▸ h2) (hws q ▸ h3) h4 hL)
theorem n_newq (X : CX p s m args c own cc E A nL) (t0 : Nat) {C : String} {index : Nat} (ht : (tysOf E)[t0]? = some (E.2 t0, .object C)) (hcl : Cond.classLink own index C ∈ tbl) (hover : va_AO C s) {n : Int32} (N' : Nat) (hn : ¬ n < 0) (hN : n.toNatClampNeg = N') (hb : N' * 4 ≤ 536870912) (hcells : cn + 1 ≤ R.cells) (hslots : sn + N' ≤ R.slots) (hdg : decode cc pc = .ok (.anewarray index, 3)) {ws' : Nat → va_W} (hws : ∀ q : Nat, ws ++ [(q, .inl (E.2 t0, N', .inr (.inr (.inr (.inr (fun _ => none))))))] = ws' q)
    (kk : ∀ q : Nat, JN p l e R s m args below meth c E A nL Q (cn + 1) (sn + N') (ws' q) lo (pc + 3) (.ref q :: st)) : JN p l e R s m args below meth c E A nL Q cn sn ws lo pc (.int n :: st) := fun H locs ls hP hD hS hL =>
  va_newq X.1 X.2.1 X.2.2.2.1 (X.2.2.2.2.1 _ hcl) hover X.2.2.2.2.2.1 hP hD hS X.2.2.2.2.2.2 hn hN hb hcells hslots hdg (fun q cA H1 h1 h2 h3 h4 => by
    have e := k_eq h1 t0 ht
    subst e
    exact kk q H1 locs ls (hws q ▸ h2) (hws q ▸ h3) h4 hL)
theorem n_new (X : CX p s m args c own cc E A nL) {C : String} {T : u_T} {N ci index : Nat} (hi : ∀ w ∈ u_ws C T N, w ∈ tbl) (ty : Nat → FieldType) (hty : ∀ k, k < N → parseFieldDescriptor (T k).2.2.1 = some (ty k)) (hcl : Cond.classLink own index C ∈ tbl) (hins : Cond.instantiable C N ∈ tbl) (hini : Cond.initialized C ∈ tbl) (hc : vwCl[ci]? = some (C, T, N)) {fs : List Value} (hfs : ∀ j, j < N → defaultValue (ty j) = vp_V fs j) (hcells : cn + 1 ≤ R.cells) (hslots : sn + N ≤ R.slots) (hdg : decode cc pc = .ok (.new index, 3)) {ws' : Nat → va_W} (hws : ∀ q : Nat, ws ++ [(q, .inr (ci, fs))] = ws' q)
    (kk : ∀ q : Nat, JN p l e R s m args below meth c E A nL Q (cn + 1) (sn + N) (ws' q) lo (pc + 3) (.ref q :: st)) : JN p l e R s m args below meth c E A nL Q cn sn ws lo pc st := fun H locs ls hP hD hS hL =>
  va_new X.1 X.2.1 X.2.2.2.2.1 hi ty hty X.2.2.2.1 (X.2.2.2.2.1 _ hcl) (X.2.2.2.2.1 _ hins) (X.2.2.2.2.1 _ hini) X.2.2.2.2.2.1 hP hD hS X.2.2.2.2.2.2 hc hfs hcells hslots hdg (fun q H1 h2 h3 h4 => kk q H1 locs ls (hws q ▸ h2) (hws q ▸ h3) h4 hL)
theorem n_astq (X : CX p s m args c own cc E A nL) (t0 q0 qk ci : Nat) {r : vw_C} {a n v : Nat} {vs : List Value} {f : Nat → Option Nat} (ha : ws[q0]? = some (a, .inl (E.2 t0, n, .inr (.inr (.inr (.inr f)))))) (ht : (tysOf E)[t0]? = some (E.2 t0, .object r.1)) (hv : ws[qk]? = some (v, .inr (ci, vs))) (hc : vwCl[ci]? = some r) {i : Int32} (hin : vp_in i n) (hdg : decode cc pc = .ok (.aastore, 1)) {ws' : va_W} (hw : ws.set q0 (a, .inl (E.2 t0, n, .inr (.inr (.inr (.inr (va_up f i.toNatClampNeg (some v))))))) = ws')
    (kk : JN p l e R s m args below meth c E A nL Q cn sn ws' lo (pc + 1) st) : JN p l e R s m args below meth c E A nL Q cn sn ws lo pc (.ref v :: .int i :: .ref a :: st) := fun H locs ls hP hD hS hL =>
  va_astq X.1 X.2.1 X.2.2.2.2.2.1 hP hD hS q0 t0 qk ci ha ht hv hc hin hdg (fun H1 locs1 h1 h2 h3 => kk H1 locs1 ls (hw ▸ h1) (hw ▸ h2) h3 hL)
theorem n_astqO (X : CX p s m args c own cc E A nL) (t0 q0 qk ci : Nat) {E0 : String} {r : vw_C} {a n v : Nat} {vs : List Value} {f : Nat → Option Nat} (ha : ws[q0]? = some (a, .inl (E.2 t0, n, .inr (.inr (.inr (.inr f)))))) (ht : (tysOf E)[t0]? = some (E.2 t0, .object E0)) (hca : va_Nw (.castable r.1 E0) s) (hv : ws[qk]? = some (v, .inr (ci, vs))) (hc : vwCl[ci]? = some r) {i : Int32} (hin : vp_in i n) (hdg : decode cc pc = .ok (.aastore, 1)) {ws' : va_W} (hw : ws.set q0 (a, .inl (E.2 t0, n, .inr (.inr (.inr (.inr (va_up f i.toNatClampNeg (some v))))))) = ws')
    (kk : JN p l e R s m args below meth c E A nL Q cn sn ws' lo (pc + 1) st) : JN p l e R s m args below meth c E A nL Q cn sn ws lo pc (.ref v :: .int i :: .ref a :: st) := fun H locs ls hP hD hS hL =>
  va_astqO X.1 X.2.1 X.2.2.2.2.2.1 hP hD hS q0 t0 qk ci ha ht hca hv hc hin hdg (fun H1 locs1 h1 h2 h3 => kk H1 locs1 ls (hw ▸ h1) (hw ▸ h2) h3 hL)
theorem w_callN {H : Heap} {locs : List Loc} {ls : Array Slot} {wc wr : va_W} {w1 : (Nat → Nat) → va_W} {rest st0 : List Value} {a : Array Value} {mc ms : Nat} (X : CX p s m args c own cc E A nL) (hP : va_P E.1 vwCl ws H) (hD : va_D A ws) (hS : va_S A s.heap H locs) (hL : lh ls nL lo) (isC isR : List Nat) (hC : isC.map (fun i => ws[i]?) = wc.map some) (hR : isR.map (fun i => ws[i]?) = wr.map some) (hn : va_nd isR = true) (hdis : ∀ i ∈ isR, i ∉ isC) {ws' : (Nat → Nat) → va_W} (hW : ∀ q, wr ++ w1 q = ws' q)
    (hr : va_Run p l e R s m args below meth c H locs cn sn mc ms (F0 m pc ls st0) rest (QI E (va_A wc H.size) w1 a) (va_A wc H.size)) (kk : ∀ q : Nat → Nat, JN p l e R s m args below meth c E A nL Q (cn + mc) (sn + ms) (ws' q) lo (pc + 3) rest) : W p l e R s m args below meth c H locs cn sn Q (F0 m pc ls st0) := by
  intro T hT Xs
  obtain ⟨v', st₀, t, T', L, h0, X', hL', e1, e2, ⟨⟨hv, q, hp1, hk1, hd1⟩, hz, hk⟩, st⟩ := hr T hT Xs
  have hv' : v' = none := by cases hv; rfl
  subst hv'
  rw [h0] at hz hk
  have hF := va_free hD hS X.2.2.2.2.2.2 isC hC
  obtain ⟨P2, D2⟩ := va_join (H1 := T'.heap) hP hD isC isR hC hR hn hdis (fun q h1 h2 => by rw [e1]; exact hk q h1 h2) hF (by rw [e1]; exact hp1) hd1
  rw [hW] at P2 D2
  have hS2 : va_S A s.heap T'.heap (locs ++ L) := ⟨Nat.le_trans hS.1 (by rw [e1]; exact hz), fun q h1 h2 => by rw [e1, hk q (Nat.lt_of_lt_of_le h1 hS.1) (fun z => h2 (hF q z))]; exact hS.2.1 q h1 h2, fun q hq => by
      rcases List.mem_append.mp hq with h | h
      · exact hS.2.2 q h
      · exact hF _ (hL' q h)⟩
  obtain ⟨t2, a1, b1⟩ := kk q T'.heap (locs ++ L) ls P2 D2 hS2 hL T' rfl X'
  exact ⟨t2, st t2 a1, b1⟩
theorem pre_N {H : Heap} {wc : va_W} {As : List Value} (X : CX p s m args c own cc E A nL) (F : FN s) (hP : va_P E.1 vwCl ws H) (hD : va_D A ws) (is : List Nat) (hC : is.map (fun i => ws[i]?) = wc.map some) (hn : va_nd is = true) :
    PreS s H (va_Pc As (fun U => U.heap.size = H.size ∧ va_P E.1 vwCl wc U.heap ∧ va_K E.1 vwCl (tysOf E) U ∧ va_D (fun _ => True) wc ∧ FN U)) As :=
  ⟨fb_ctN, fun U hU hW => ⟨rfl, by rw [hU], by rw [hU]; exact subC is hC hP, va_K.moved hW.alike X.2.2.2.2.2.1, (hD.sub is hn hC).weaken (fun _ _ _ _ => trivial), F.go hW⟩⟩
theorem n_callI (X : CX p s m args c own cc E A nL) (F : FN s) {y : MethodName} {cd : ByteArray} {mL index n mc ms : Nat} {rm : Room} {wc wr : va_W} {w1 : (Nat → Nat) → va_W} {b : Nat} {As rest : List Value} (isC isR : List Nat) (K : CtN E y cd mL rm wc w1 (.ref b :: As) mc ms)
    (hC : isC.map (fun i => ws[i]?) = wc.map some) (hnC : va_nd isC = true) (hR0 : isR.map (fun i => ws[i]?) = wr.map some) (hn : va_nd isR = true) (hdis : ∀ i ∈ isR, i ∉ isC) {ws' : (Nat → Nat) → va_W} (hW : ∀ q, wr ++ w1 q = ws' q)
    (k1 : Cond.methodLink own index y ∈ tbl) (k2 : Cond.instanceMethod y ∈ tbl) (k4 : Cond.initialized y.cls ∈ tbl) (k5 : Cond.code y cd mL none ∈ tbl) (hrm : rm.cells = mc ∧ rm.slots = ms) (hy : y.name = "<init>")
    (hd : y.cls ≠ "java/lang/invoke/MethodHandle" ∧ y.cls ≠ "java/lang/invoke/VarHandle" ∧ (parseMethodDescriptor y.desc).map (fun d => d.parameters.length) = some n) (hR : rm.frames + 1 ≤ R.frames ∧ 8 + (mL + 11) + rm.locals ≤ R.locals) (hf : cn + mc ≤ R.cells ∧ sn + ms ≤ R.slots) (hAs : As.length = n) (hsum : (rest.map fun v => v.category).sum ≤ 8) (hst : st = As.reverse ++ .ref b :: rest) (hdg : decode cc pc = .ok (.invokespecial index, 3))
    (kk : ∀ q : Nat → Nat, JN p l e R s m args below meth c E A nL Q (cn + mc) (sn + ms) (ws' q) lo (pc + 3) rest) : JN p l e R s m args below meth c E A nL Q cn sn ws lo pc st := by
  intro H locs ls hP hD hS hL
  have hG : GoodIn tbl (Cond.code y cd mL none :: tbl) := gi_app (ws := []) (fun _ h => by cases h) k5
  exact w_callN X hP hD hS hL isC isR hC hR0 hn hdis hW (va_runI (Ts := tbl) ⟨X.1, X.2.1, X.2.2.1, X.2.2.2.1, X.2.2.2.2.1⟩ (K l H.size) (cwI n X.2.2.2.2.1 hG rfl hrm.1 hrm.2 (X.2.2.2.2.1 _ k4) (X.2.2.2.2.1 _ k1) (X.2.2.2.2.1 _ k2) hy hd hR) (pre_N X F hP hD isC hC hnC) rfl hAs hL.1 hst (lv_room hsum) hdg hf) kk
theorem n_callIN (X : CX p s m args c own cc E A nL) (F : FN s) {y : MethodName} {host : String} {cd : ByteArray} {mL index n mc ms : Nat} {rm : Room} {wc wr : va_W} {w1 : (Nat → Nat) → va_W} {b : Nat} {As rest : List Value} (isC isR : List Nat) (K : CtN E y cd mL rm wc w1 (.ref b :: As) mc ms)
    (hC : isC.map (fun i => ws[i]?) = wc.map some) (hnC : va_nd isC = true) (hR0 : isR.map (fun i => ws[i]?) = wr.map some) (hn : va_nd isR = true) (hdis : ∀ i ∈ isR, i ∉ isC) {ws' : (Nat → Nat) → va_W} (hW : ∀ q, wr ++ w1 q = ws' q)
    (k1 : (own, index, y, host) ∈ nestL) (k2 : Cond.instanceMethod y ∈ tbl) (k4 : Cond.initialized y.cls ∈ tbl) (k5 : Cond.code y cd mL none ∈ tbl) (hrm : rm.cells = mc ∧ rm.slots = ms) (hy : y.name = "<init>")
    (hd : y.cls ≠ "java/lang/invoke/MethodHandle" ∧ y.cls ≠ "java/lang/invoke/VarHandle" ∧ (parseMethodDescriptor y.desc).map (fun d => d.parameters.length) = some n) (hR : rm.frames + 1 ≤ R.frames ∧ 8 + (mL + 11) + rm.locals ≤ R.locals) (hf : cn + mc ≤ R.cells ∧ sn + ms ≤ R.slots) (hAs : As.length = n) (hsum : (rest.map fun v => v.category).sum ≤ 8) (hst : st = As.reverse ++ .ref b :: rest) (hdg : decode cc pc = .ok (.invokespecial index, 3))
    (kk : ∀ q : Nat → Nat, JN p l e R s m args below meth c E A nL Q (cn + mc) (sn + ms) (ws' q) lo (pc + 3) rest) : JN p l e R s m args below meth c E A nL Q cn sn ws lo pc st := by
  intro H locs ls hP hD hS hL
  have hG : GoodIn tbl (Cond.code y cd mL none :: tbl) := gi_app (ws := []) (fun _ h => by cases h) k5
  exact w_callN X hP hD hS hL isC isR hC hR0 hn hdis hW (va_runIN (Ts := tbl) ⟨X.1, X.2.1, X.2.2.1, X.2.2.2.1, X.2.2.2.2.1⟩ (K l H.size) ⟨va_cnB n X.2.2.2.2.1 hG rfl hrm.1 hrm.2 (F.1 _ k1) (X.2.2.2.2.1 _ k4) hd hR, hy, X.2.2.2.2.1 _ k2⟩ (pre_N X F hP hD isC hC hnC) rfl hAs hL.1 hst (lv_room hsum) hdg hf) kk
/-- a call of a method that makes nothing, in a constructor or in the law -/
theorem w_callJ {H : Heap} {locs : List Loc} {ls : Array Slot} {v : Option Value} {wc wc' : va_W} {rest st0 : List Value} {a : Array Value} (X : CX p s m args c own cc E A nL) (hP : va_P E.1 vwCl ws H) (hD : va_D A ws) (hS : va_S A s.heap H locs) (hL : lh ls nL lo) (is : List Nat) (hC : is.map (fun i => ws[i]?) = wc.map some) (hn : va_nd is = true) (hlen : is.length = wc'.length) {ws' : va_W} (hW : putW ws is wc' = ws')
    (hr : va_Run p l e R s m args below meth c H locs cn sn 0 0 (F0 m pc ls st0) rest (QG E (va_A wc H.size) wc' v a) (va_A wc H.size)) (kk : JN p l e R s m args below meth c E A nL Q cn sn ws' lo (pc + 3) (v.toList ++ rest)) : W p l e R s m args below meth c H locs cn sn Q (F0 m pc ls st0) := by
  intro T hT Xs
  obtain ⟨v', st₀, t, T', L, h0, X', hL', e1, e2, ⟨⟨hv, hp1, hk1, hd1⟩, hz, hk⟩, st⟩ := hr T hT Xs
  have hv' : v' = v := by cases hv; rfl
  subst hv'
  rw [h0] at hz hk
  have hF := va_free hD hS X.2.2.2.2.2.2 is hC
  obtain ⟨P2, D2⟩ := putW_join hP hD is hC hn hlen (H1 := T'.heap) (fun q h1 h2 => by rw [e1]; exact hk q h1 h2) hF (by rw [e1]; exact hp1) hd1
  rw [hW] at P2 D2
  have hS2 : va_S A s.heap T'.heap (locs ++ L) := ⟨Nat.le_trans hS.1 (by rw [e1]; exact hz), fun q h1 h2 => by rw [e1, hk q (Nat.lt_of_lt_of_le h1 hS.1) (fun z => h2 (hF q z))]; exact hS.2.1 q h1 h2, fun q hq => by
      rcases List.mem_append.mp hq with h | h
      · exact hS.2.2 q h
      · exact hF _ (hL' q h)⟩
  obtain ⟨t2, a1, b1⟩ := kk T'.heap (locs ++ L) ls P2 D2 hS2 hL T' rfl X'
  exact ⟨t2, st t2 a1, b1⟩
theorem n_callV (X : CX p s m args c own cc E A nL) {y : MethodName} {cd : ByteArray} {mL index n : Nat} {ret : Option FieldType} {rm : Room} {wc wc' ws' : va_W} {b : Nat} {As rest : List Value} {v : Option Value} {C : String} {T : u_T} {N ci : Nat} {fs : List Value} (is : List Nat) (r0 : Nat) (K : Ct E y cd mL ret rm wc wc' (.ref b :: As) v)
    (hC : is.map (fun i => ws[i]?) = wc.map some) (hn : va_nd is = true) (hlen : is.length = wc'.length) (hW : putW ws is wc' = ws') (he : wc[r0]? = some (b, .inr (ci, fs))) (hc : vwCl[ci]? = some (C, T, N))
    (k1 : Cond.methodLink own index y ∈ tbl) (k2 : Cond.instanceMethod y ∈ tbl) (k3 : Cond.selects C y y ∈ tbl) (k4 : Cond.initialized C ∈ tbl) (k5 : Cond.code y cd mL ret ∈ tbl) (hrm : rm.cells = 0 ∧ rm.slots = 0)
    (hd : y.cls = C ∧ y.cls ≠ "java/lang/invoke/MethodHandle" ∧ y.cls ≠ "java/lang/invoke/VarHandle" ∧ (parseMethodDescriptor y.desc).map (fun d => d.parameters.length) = some n) (hR : rm.frames + 1 ≤ R.frames ∧ 8 + (mL + 11) + rm.locals ≤ R.locals) (hf : cn ≤ R.cells ∧ sn ≤ R.slots) (hAs : As.length = n) (hsum : (rest.map fun v => v.category).sum ≤ 8) (hst : st = As.reverse ++ .ref b :: rest) (hdg : decode cc pc = .ok (.invokevirtual index, 3))
    (kk : JN p l e R s m args below meth c E A nL Q cn sn ws' lo (pc + 3) (v.toList ++ rest)) : JN p l e R s m args below meth c E A nL Q cn sn ws lo pc st := by
  intro H locs ls hP hD hS hL
  exact w_callJ X hP hD hS hL is hC hn hlen hW (va_runV (Ts := tbl) ⟨X.1, X.2.1, X.2.2.1, X.2.2.2.1, X.2.2.2.2.1⟩ (K l H.size) (cwV n X.2.2.2.2.1 (gi_app (m4 k1 k2 k3 k4) k5) rfl hrm.1 hrm.2 hd hR) (pre_v X hP hD is hC hn he hc) rfl hAs hL.1 hst (lv_room hsum) hdg hf) kk
theorem n_callVF {tn tt : Nat} (X : CX p s m args c own cc E A nL) (F : Fx tn tt A s) {y : MethodName} {cd : ByteArray} {mL index n : Nat} {ret : Option FieldType} {rm : Room} {wc wc' ws' : va_W} {b : Nat} {As rest : List Value} {v : Option Value} {C : String} {T : u_T} {N ci : Nat} {fs : List Value} (is : List Nat) (r0 : Nat) (K : CtF tn tt E y cd mL ret rm wc wc' (.ref b :: As) v)
    (hC : is.map (fun i => ws[i]?) = wc.map some) (hn : va_nd is = true) (hlen : is.length = wc'.length) (hW : putW ws is wc' = ws') (he : wc[r0]? = some (b, .inr (ci, fs))) (hc : vwCl[ci]? = some (C, T, N))
    (k1 : Cond.methodLink own index y ∈ tbl) (k2 : Cond.instanceMethod y ∈ tbl) (k3 : Cond.selects C y y ∈ tbl) (k4 : Cond.initialized C ∈ tbl) (k5 : Cond.code y cd mL ret ∈ tbl) (hrm : rm.cells = 0 ∧ rm.slots = 0)
    (hd : y.cls = C ∧ y.cls ≠ "java/lang/invoke/MethodHandle" ∧ y.cls ≠ "java/lang/invoke/VarHandle" ∧ (parseMethodDescriptor y.desc).map (fun d => d.parameters.length) = some n) (hR : rm.frames + 1 ≤ R.frames ∧ 8 + (mL + 11) + rm.locals ≤ R.locals) (hf : cn ≤ R.cells ∧ sn ≤ R.slots) (hAs : As.length = n) (hsum : (rest.map fun v => v.category).sum ≤ 8) (hst : st = As.reverse ++ .ref b :: rest) (hdg : decode cc pc = .ok (.invokevirtual index, 3))
    (kk : JN p l e R s m args below meth c E A nL Q cn sn ws' lo (pc + 3) (v.toList ++ rest)) : JN p l e R s m args below meth c E A nL Q cn sn ws lo pc st := by
  intro H locs ls hP hD hS hL
  exact w_callJ X hP hD hS hL is hC hn hlen hW (va_runV (Ts := tbl) ⟨X.1, X.2.1, X.2.2.1, X.2.2.2.1, X.2.2.2.2.1⟩ (K l H.size) (cwV n X.2.2.2.2.1 (gi_app (m4 k1 k2 k3 k4) k5) rfl hrm.1 hrm.2 hd hR) (pre_vF X F hP hD hS is hC hn he hc) rfl hAs hL.1 hst (lv_room hsum) hdg hf) kk
end JNA
