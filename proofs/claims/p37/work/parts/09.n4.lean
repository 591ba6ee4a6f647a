/-! new int[4][24]: the outer row, then four rows, each stored as it comes -/
section MNR
def mnI (k : ClassId) : Cell := { cls := k, slots := Array.replicate 24 (.int 0) }
def mnO (c : ClassId) : Cell := { cls := c, slots := Array.replicate 4 .null }
/-- one more row: made, then stored in place i of the outer one, which lies at a -/
def mnR (a : Nat) (k : ClassId) (i : Nat) (S : State) : State := (S.pushCell (mnI k)).setCell a (((S.heap[a]?).getD (mnO k)).setSlot i (.ref S.heap.size))
def mnE (T : State) (c k : ClassId) : State := mnR T.heap.size k 3 (mnR T.heap.size k 2 (mnR T.heap.size k 1 (mnR T.heap.size k 0 (T.pushCell (mnO c)))))
theorem mnR_top (a : Nat) (k : ClassId) (i : Nat) (S : State) (f : JFrame) : mnR a k i (S.setTop f) = (mnR a k i S).setTop f := by
  simp only [mnR, State.heap_setTop, State.pushCell_setTop, State.setCell_setTop]
/-- what a state is, behind some rows -/
def mnG (T : State) (a : Nat) (c k : ClassId) (i : Nat) (o : Cell) (S : State) : Prop := S.heap.size = a + 1 + i ∧ S.heap[a]? = some o ∧ o.cls = c ∧ o.vm = .none ∧ o.slots.size = 4 ∧ S.vm = T.vm ∧ S.slotsUsed = T.slotsUsed + 4 + 24 * i ∧ (∀ q, q < a → S.heap[q]? = T.heap[q]?) ∧ ∀ j, j < i → S.heap[a + 1 + j]? = some (mnI k)
theorem mnG_0 (T : State) (c k : ClassId) : mnG T T.heap.size c k 0 (mnO c) (T.pushCell (mnO c)) :=
  ⟨by simp, by simp, rfl, rfl, by simp [mnO], rfl, by simp [mnO], fun q hq => State.heap_pushCell_of_lt _ _ hq, fun j hj => absurd hj (Nat.not_lt_zero j)⟩
theorem mnG_s {T : State} {a : Nat} {c k : ClassId} {i : Nat} {o : Cell} {S : State} (h : mnG T a c k i o S) : mnG T a c k (i + 1) (o.setSlot i (.ref (a + 1 + i))) (mnR a k i S) := by
  obtain ⟨h1, h2, h3, h4, h5, h6, h7, h8, h9⟩ := h
  have hlt : a < S.heap.size := by omega
  have hp : (S.pushCell (mnI k)).heap[a]? = some o := by rw [State.heap_pushCell_of_lt (h := hlt)]; exact h2
  have e : mnR a k i S = (S.pushCell (mnI k)).setCell a (o.setSlot i (.ref (a + 1 + i))) := by simp only [mnR, h2, Option.getD_some, h1]
  rw [e]
  refine ⟨?_, State.heap_setCell_self hp, by simp [Cell.setSlot, h3], by simp [Cell.setSlot, h4], by simp [Cell.setSlot, h5], by simp [h6], ?_, fun q hq => ?_, fun j hj => ?_⟩
  · simp [State.setCell, h1]; omega
  · simp [h7, mnI]; omega
  · have hq2 : q < S.heap.size := by omega
    rw [State.heap_setCell_other (Nat.ne_of_gt hq), State.heap_pushCell_of_lt (h := hq2)]
    exact h8 q hq
  · rw [State.heap_setCell_other (show a ≠ a + 1 + j by omega)]
    rcases Nat.lt_or_ge j i with g | g
    · have hq2 : a + 1 + j < S.heap.size := by omega
      rw [State.heap_pushCell_of_lt (h := hq2)]
      exact h9 j g
    · have : a + 1 + j = S.heap.size := by omega
      rw [this]
      simp
theorem mnG_E (T : State) (c k : ClassId) : mnG T T.heap.size c k 4 (((((mnO c).setSlot 0 (.ref (T.heap.size + 1))).setSlot 1 (.ref (T.heap.size + 2))).setSlot 2 (.ref (T.heap.size + 3))).setSlot 3 (.ref (T.heap.size + 4))) (mnE T c k) := mnG_s (mnG_s (mnG_s (mnG_s (mnG_0 T c k))))
/-- the state behind i rows, the outer row as it is then -/
def mnS (T : State) (c k : ClassId) : Nat → State
  | 0 => T.pushCell (mnO c)
  | i + 1 => mnR T.heap.size k i (mnS T c k i)
def mnC (c : ClassId) (a : Nat) : Nat → Cell
  | 0 => mnO c
  | i + 1 => (mnC c a i).setSlot i (.ref (a + 1 + i))
theorem mnG_i (T : State) (c k : ClassId) : ∀ i, mnG T T.heap.size c k i (mnC c T.heap.size i) (mnS T c k i)
  | 0 => mnG_0 T c k
  | i + 1 => mnG_s (mnG_i T c k i)
theorem mnS_top (T : State) (c k : ClassId) (f : JFrame) : ∀ i, mnS (T.setTop f) c k i = (mnS T c k i).setTop f
  | 0 => State.pushCell_setTop ..
  | i + 1 => by
    show mnR (T.setTop f).heap.size k i (mnS (T.setTop f) c k i) = _
    rw [mnS_top T c k f i, mnR_top]
    rfl
theorem mnX {p : Program} {l : Launch} {e : Env} {R : Room} {s : State} {m : MethodId} {args : Array Value} {below : List Frame} {meth : Method} {c : Code} {T : State} {locs : List Loc} {cells slots : Nat} (X : Stand p l e R s m args below meth c T locs cells slots) (cA k : ClassId) : ∀ i, Stand p l e R s m args below meth c (mnS T cA k i) (locs ++ (List.range i).map fun j => ⟨T.heap.size, j⟩) (cells + 1 + i) (slots + 4 + 24 * i)
  | 0 => by
    have h := X.pushed (mnO cA)
    rw [show (mnO cA).slots.size = 4 by simp [mnO]] at h
    simpa [mnS] using h
  | i + 1 => by
    obtain ⟨h1, h2, -⟩ := mnG_i T cA k i
    have hlt : T.heap.size < (mnS T cA k i).heap.size := by omega
    have hp : ((mnS T cA k i).pushCell (mnI k)).heap[T.heap.size]? = some (mnC cA T.heap.size i) := by rw [State.heap_pushCell_of_lt (h := hlt)]; exact h2
    have h := ((mnX X cA k i).pushed (mnI k)).stored hp i (.ref (mnS T cA k i).heap.size)
    rw [show (mnI k).slots.size = 24 by simp [mnI]] at h
    have e1 : mnS T cA k (i + 1) = ((mnS T cA k i).pushCell (mnI k)).setCell T.heap.size ((mnC cA T.heap.size i).setSlot i (.ref (mnS T cA k i).heap.size)) := by
      show mnR _ _ _ _ = _
      simp only [mnR, h2, Option.getD_some]
    rw [e1, List.range_succ, List.map_append, ← List.append_assoc, show slots + 4 + 24 * (i + 1) = slots + 4 + 24 * i + 24 by omega, ← Nat.add_assoc]
    exact h
section MNW
variable {EE : CtlPost} {e : Env} {d : Bool} {acts : List Action} {S : State}
theorem mn_row {k cc : ClassId} {kc : Class} (hk : S.vm.classes[k]? = some kc) (hkk : kc.kind = .array cc .int) (hl : ¬ 24 > e.platform.arrayLengthLimit) (hh : ¬ 24 * componentBytes .int > e.platform.maxHeapBytes) (h1 : S.heap.size < e.platform.maxCells) (h2 : S.slotsUsed + 24 ≤ e.platform.maxSlots) {Q : Addr → Pre} (hq : ∀ acts', Q S.heap.size d acts' (S.pushCell (mnI k))) : wp (multianewarray.make k [24]) Q EE e d acts S := by
  rw [multianewarray.make]
  simp only [wp_bind', W.ite, show ¬ (24 : Int32) < 0 by decide, if_false, wp_pure', W.theClass, hk, hkk, Option.some.injEq, exists_eq_left']
  exact W.newArray_of hk hkk hl hh h1 h2 rfl hq
theorem mn_make {cA k cc : ClassId} {kA kc : Class} (hA : S.vm.classes[cA]? = some kA) (hAk : kA.kind = .array k (.array .int)) (hk : S.vm.classes[k]? = some kc) (hkk : kc.kind = .array cc .int) (hl0 : ¬ 4 > e.platform.arrayLengthLimit) (hh0 : ¬ 4 * componentBytes (.array .int) > e.platform.maxHeapBytes) (hl : ¬ 24 > e.platform.arrayLengthLimit) (hh : ¬ 24 * componentBytes .int > e.platform.maxHeapBytes) (h1 : S.heap.size + 5 ≤ e.platform.maxCells) (h2 : S.slotsUsed + 100 ≤ e.platform.maxSlots) {Q : Addr → Pre} (hq : ∀ d' acts', Q S.heap.size d' acts' (mnS S cA k 4)) : wp (multianewarray.make cA [4, 24]) Q EE e d acts S := by
  rw [multianewarray.make]
  simp only [wp_bind', W.ite, show ¬ (4 : Int32) < 0 by decide, if_false, wp_pure', W.theClass, hA, hAk, Option.some.injEq, exists_eq_left', show (4 : Int32).toNatClampNeg = 4 by decide]
  refine W.newArray_of hA hAk hl0 hh0 (by omega) (by omega) rfl (fun acts1 => ?_)
  have hf : ([(24 : Int32)].find? (· < 0)) = none := by decide
  simp only [hf]
  rw [ite_self, wp_bind', Std.Legacy.Range.forIn_eq_forIn_range']
  have hsz : ([:4] : Std.Legacy.Range).size = 4 := by decide
  rw [hsz]
  show wp (forIn (List.range' 0 4 1) PUnit.unit _) _ EE e d acts1 _
  refine wp_forIn_inv (fun rest s' => ∃ i, i ≤ 4 ∧ rest = List.range' i (4 - i) ∧ s' = mnS S cA k i) _ _ ⟨0, by omega, rfl, rfl⟩ ?_ ?_
  · rintro x rest s' d' acts' Q' ⟨i, hi, hr, rfl⟩ hnext
    have hlt : i < 4 := by
      rcases Nat.lt_or_ge i 4 with g | g
      · exact g
      · rw [show 4 - i = 0 by omega] at hr; cases hr
    rw [show 4 - i = (4 - (i + 1)) + 1 by omega, List.range'_succ] at hr
    obtain ⟨rfl, hr⟩ := List.cons.inj hr
    obtain ⟨g1, g2, g3, g4, g5, g6, g7, -, -⟩ := mnG_i S cA k x
    simp only [wp_bind']
    refine mn_row (by rw [g6]; exact hk) hkk hl hh (by omega) (by omega) (fun acts2 => ?_)
    have hlt0 : S.heap.size < (mnS S cA k x).heap.size := by omega
    simp only [wp_bind', W.writeLoc, wp_pure']
    refine ⟨mnC cA S.heap.size x, by rw [State.heap_pushCell_of_lt (h := hlt0)]; exact g2, by rw [g4]; simp, by rw [g5]; exact hlt, ?_, hnext _ _ _ ⟨x + 1, hlt, hr, ?_⟩⟩
    · rw [g3, g4]
      simp [State.fitsSlot, State.slotType?, g6, hA, hAk]
      rfl
    · show _ = mnR _ _ _ _
      simp only [mnR, g2, Option.getD_some]
  · rintro s' d' acts' ⟨i, hi, hr, rfl⟩
    have : i = 4 := by
      rcases Nat.lt_or_ge i 4 with g | g
      · rw [show 4 - i = (4 - (i + 1)) + 1 by omega, List.range'_succ] at hr; cases hr
      · omega
    subst this
    simp only [wp_pure']
    exact hq _ _
end MNW
end MNR
theorem vu4 (a b c d : Nat) : va_up (va_up (va_up (va_up (fun _ => none) (0 : Int32).toNatClampNeg (some a)) (1 : Int32).toNatClampNeg (some b)) (2 : Int32).toNatClampNeg (some c)) (3 : Int32).toNatClampNeg (some d) = (fun j => [a, b, c, d][j]?) := by
  funext j
  match j with
  | 0 => rfl
  | 1 => rfl
  | 2 => rfl
  | 3 => rfl
  | j + 4 => simp [va_up, show ((0 : Int32).toNatClampNeg) = 0 from rfl, show ((1 : Int32).toNatClampNeg) = 1 from rfl, show ((2 : Int32).toNatClampNeg) = 2 from rfl, show ((3 : Int32).toNatClampNeg) = 3 from rfl]
theorem vu7 (a b c d e f g : Nat) : va_up (va_up (va_up (va_up (va_up (va_up (va_up (fun _ => none) (0 : Int32).toNatClampNeg (some a)) (1 : Int32).toNatClampNeg (some b)) (2 : Int32).toNatClampNeg (some c)) (3 : Int32).toNatClampNeg (some d)) (4 : Int32).toNatClampNeg (some e)) (5 : Int32).toNatClampNeg (some f)) (6 : Int32).toNatClampNeg (some g) = (fun j => [a, b, c, d, e, f, g][j]?) := by
  funext j
  match j with
  | 0 => rfl
  | 1 => rfl
  | 2 => rfl
  | 3 => rfl
  | 4 => rfl
  | 5 => rfl
  | 6 => rfl
  | j + 7 => simp [va_up, show ((0 : Int32).toNatClampNeg) = 0 from rfl, show ((1 : Int32).toNatClampNeg) = 1 from rfl, show ((2 : Int32).toNatClampNeg) = 2 from rfl, show ((3 : Int32).toNatClampNeg) = 3 from rfl, show ((4 : Int32).toNatClampNeg) = 4 from rfl, show ((5 : Int32).toNatClampNeg) = 5 from rfl, show ((6 : Int32).toNatClampNeg) = 6 from rfl]
theorem mn_step {p : Program} {l : Launch} {e : Env} {R : Room} {s : State} {m : MethodId} {args : Array Value} {below : List Frame} {meth : Method} {c : Code} {T : State} {locs : List Loc} {cells slots : Nat} (X : Stand p l e R s m args below meth c T locs cells slots) (hexec : p.tables.exec = Jvm.exec) {own : String} {index : Nat} (hown : s.vm.findClass own = some m.cls) (hcl : (Cond.classLink own index "[[I").before args s = true) {cA k cc : ClassId} {kA kc : Class} (hfA : s.vm.findClass "[[I" = some cA) (hA : s.vm.classes[cA]? = some kA) (hAk : kA.kind = .array k (.array .int)) (hk : s.vm.classes[k]? = some kc) (hkk : kc.kind = .array cc .int)
    {pc : Nat} {ls : Array Slot} {rest : List Value} (hdg : decode c.code pc = .ok (.multianewarray index 2, 4)) (hcells : cells + 5 ≤ R.cells) (hslots : slots + 100 ≤ R.slots) :
    ∃ vm₁ : Vm, Stand p l e R s m args below meth c (mnS (T.setVm vm₁) cA k 4) (locs ++ (List.range 4).map fun j => ⟨T.heap.size, j⟩) (cells + 5) (slots + 100) ∧ ∀ target, Steps p.tables e below ((mnS (T.setVm vm₁) cA k 4).setTop (F0 m (pc + 4) ls (.ref T.heap.size :: rest))) target → Steps p.tables e below (T.setTop (F0 m pc ls (.int 24 :: .int 4 :: rest))) target := by
  have hpl : e.platform.magicAccessors = ({} : Platform).magicAccessors := by rw [X.admits.platform]
  obtain ⟨c0, hfc0, hln⟩ := Cond.classLink_spec hown hcl e.platform hpl
  cases hfA.symm.trans hfc0
  obtain ⟨hg₁, hwarm₁, hready₁⟩ := State.classEntry (e := e) X.warmed hln
  generalize T.vm.noted m.cls index (.cls cA) = vm₁ at hg₁ hwarm₁ hready₁
  obtain ⟨kA₁, hA₁, heA⟩ := hwarm₁.alike.2.2 _ _ hA
  obtain ⟨kc₁, hk₁, hek⟩ := hwarm₁.alike.2.2 _ _ hk
  have hAk₁ : kA₁.kind = .array k (.array .int) := by rw [heA]; exact hAk
  have hkk₁ : kc₁.kind = .array cc .int := by rw [hek]; exact hkk
  have X₁ := X.noted hwarm₁
  have XF := mnX X₁ cA k 4
  obtain ⟨hr1, hr2⟩ := X.roomAbove hcells hslots
  refine ⟨vm₁, XF, fun target hrest => ?_⟩
  have hlim := Launch.admits_arrayLengthLimit X.admits
  have hbyt := Launch.admits_maxHeapBytes X.admits
  jvm_step X.here [hexec, hdg]
  simp only [multianewarray.sem, wp_bind', W.resolveClassAt_links (State.method?_setTop (F0 m pc ls (.int 24 :: .int 4 :: rest)) X.here.top) hg₁]
  rw [W.popN, if_neg (by decide)]
  refine ⟨F0 m pc ls (.int 24 :: .int 4 :: rest), State.topJava?_setTop' (s := T.setVm vm₁) _ X.here.top, [.int 4, .int 24], rest, rfl, rfl, ?_⟩
  simp only [List.mapM_cons, List.mapM_nil, wp_bind', wp_pure']
  refine mn_make (S := ((T.setTop (F0 m pc ls (.int 24 :: .int 4 :: rest))).setVm vm₁).setTop (F0 m pc ls rest)) (kA := kA₁) (kc := kc₁) hA₁ hAk₁ hk₁ hkk₁ (by rw [hlim]; decide) (by rw [hbyt]; decide) (by rw [hlim]; decide) (by rw [hbyt]; decide) hr1 hr2 (fun d' acts' => ?_)
  have eS : ((T.setTop (F0 m pc ls (.int 24 :: .int 4 :: rest))).setVm vm₁).setTop (F0 m pc ls rest) = (T.setVm vm₁).setTop (F0 m pc ls rest) := by
    show ((T.setVm vm₁).setTop _).setTop _ = _
    rw [State.setTop_setTop]
  show wp _ _ _ e _ acts' (mnS (((T.setTop (F0 m pc ls (.int 24 :: .int 4 :: rest))).setVm vm₁).setTop (F0 m pc ls rest)) cA k 4)
  rw [eS, mnS_top]
  simp only [wp_bind', W.mark, W.pushRef, State.topJava?_setTop' _ XF.here.top, Option.some.injEq, exists_eq_left', State.setTop_setTop, State.heap_setTop]
  intro acts
  simp [jvm, XF.here.top]
  exact hrest
theorem mn_cell (c : ClassId) (a : Nat) : mnC c a 4 = vp_cell c (4, .inr (.inr (.inr (.inr (fun j => [a + 1, a + 2, a + 3, a + 4][j]?))))) := by
  rw [vp_cell_q]
  show ((((mnO c).setSlot 0 (.ref (a + 1 + 0))).setSlot 1 (.ref (a + 1 + 1))).setSlot 2 (.ref (a + 1 + 2))).setSlot 3 (.ref (a + 1 + 3)) = _
  have e : mnO c = arrV c 4 (fun _ => .null) := arrV_new c 4 .null
  rw [e, arrV_store, arrV_store, arrV_store, arrV_store]
  refine congrArg (arrV c 4) (funext fun j => ?_)
  match j with
  | 0 => rfl
  | 1 => rfl
  | 2 => rfl
  | 3 => rfl
  | j + 4 => simp [updV, va_rf]
theorem mn_row0 (c : ClassId) : mnI c = vp_cell c (24, .inl (fun _ => 0)) := by
  rw [vp_cell_i]
  exact arrV_new c 24 (.int 0)
theorem mn_at {E : Ev} {a k : Nat} {x : Nat × va_E} (h : ([(a + 0, .inl (E.2 4, 4, .inr (.inr (.inr (.inr (fun j => [a + 1, a + 2, a + 3, a + 4][j]?)))))), (a + 1, .inl (E.2 0, 24, .inl (fun _ => 0))), (a + 2, .inl (E.2 0, 24, .inl (fun _ => 0))), (a + 3, .inl (E.2 0, 24, .inl (fun _ => 0))), (a + 4, .inl (E.2 0, 24, .inl (fun _ => 0)))] : va_W)[k]? = some x) : k < 5 ∧ x.1 = a + k := by
  match k, h with
  | 0, h => cases h; exact ⟨by omega, rfl⟩
  | 1, h => cases h; exact ⟨by omega, rfl⟩
  | 2, h => cases h; exact ⟨by omega, rfl⟩
  | 3, h => cases h; exact ⟨by omega, rfl⟩
  | 4, h => cases h; exact ⟨by omega, rfl⟩
  | k + 5, h => simp at h
section JNM
variable {p : Program} {l : Launch} {e : Env} {R : Room} {s : State} {m : MethodId} {args : Array Value} {below : List Frame} {meth : Method} {c : Code} {E : Ev} {A : Nat → Prop} {nL : Nat} {Q : State → Prop} {ws : va_W} {lo : List (Option Value)} {pc : Nat} {st : List Value} {own : String} {cc : ByteArray} {cn sn : Nat}
theorem n_mna (X : CX p s m args c own cc E A nL) (F : FN s) {index : Nat} (k1 : Cond.classLink own index "[[I" ∈ tbl) (k2 : Cond.arrayClass .int ∈ tbl) (hcells : cn + 5 ≤ R.cells) (hslots : sn + 100 ≤ R.slots) (hdg : decode cc pc = .ok (.multianewarray index 2, 4)) {ws' : (Nat → Nat) → va_W} (hws : ∀ r : Nat → Nat, ws ++ [(r 0, .inl (E.2 4, 4, .inr (.inr (.inr (.inr (fun j => [r 1, r 2, r 3, r 4][j]?)))))), (r 1, .inl (E.2 0, 24, .inl (fun _ => 0))), (r 2, .inl (E.2 0, 24, .inl (fun _ => 0))), (r 3, .inl (E.2 0, 24, .inl (fun _ => 0))), (r 4, .inl (E.2 0, 24, .inl (fun _ => 0)))] = ws' r)
    (kk : ∀ r : Nat → Nat, JN p l e R s m args below meth c E A nL Q (cn + 5) (sn + 100) (ws' r) lo (pc + 4) (.ref (r 0) :: st)) : JN p l e R s m args below meth c E A nL Q cn sn ws lo pc (.int 24 :: .int 4 :: st) := by
  intro H locs ls hP hD hS hL T hT Xs
  obtain ⟨-, -, -, -, cII, k, comp, f1, f2, f3, f4⟩ := F
  obtain ⟨-, kc, hkc, cc', hkk⟩ := (X.2.2.2.2.2.1.2 0 _ rfl).1 0 (fun _ => .null)
  have n0 : s.vm.findClass ("[" ++ FieldType.int.toString) = some (E.2 0) := (X.2.2.2.2.2.1.2 0 _ rfl).2
  have n4 : s.vm.findClass ("[" ++ (FieldType.array .int).toString) = some (E.2 4) := (X.2.2.2.2.2.1.2 4 _ rfl).2
  rw [show "[" ++ FieldType.int.toString = "[I" by decide +kernel] at n0
  rw [show "[" ++ (FieldType.array .int).toString = "[[I" by decide +kernel] at n4
  have e0 : comp = E.2 0 := Option.some.inj (f3.symm.trans n0)
  have e4 : cII = E.2 4 := Option.some.inj (f4.symm.trans n4)
  subst e0
  subst e4
  obtain ⟨vm₁, X', step⟩ := mn_step Xs X.1 X.2.2.2.1 (X.2.2.2.2.1 _ k1) f4 f1 f2 hkc hkk (pc := pc) (ls := ls) (rest := st) (by rw [X.2.1]; exact hdg) hcells hslots
  obtain ⟨g1, g2, -, -, -, -, -, g8, g9⟩ := mnG_i (T.setVm vm₁) (E.2 4) (E.2 0) 4
  have hTh : (T.setVm vm₁).heap = H := hT
  have hT2 : T.heap.size = H.size := by rw [hT]
  rw [hTh] at g1 g2 g8 g9
  generalize hF : mnS (T.setVm vm₁) (E.2 4) (E.2 0) 4 = FS at X' step g1 g2 g8 g9
  have old : ∀ q : Nat, q < H.size → FS.heap[q]? = H[q]? := g8
  have hk0 : va_P E.1 vwCl ws FS.heap := hP.kept (fun k9 x hx => old x.1 ((hP k9 x hx).lt))
  have P2 : va_P E.1 vwCl (ws' (fun i => H.size + i)) FS.heap := by
    rw [← hws]
    refine hk0.app (fun k9 x hx => ?_)
    match k9, hx with
    | 0, hx => cases hx; exact g2.trans (congrArg some (mn_cell _ _))
    | 1, hx => cases hx; exact (g9 0 (by omega)).trans (congrArg some (mn_row0 _))
    | 2, hx => cases hx; exact (g9 1 (by omega)).trans (congrArg some (mn_row0 _))
    | 3, hx => cases hx; exact (g9 2 (by omega)).trans (congrArg some (mn_row0 _))
    | 4, hx => cases hx; exact (g9 3 (by omega)).trans (congrArg some (mn_row0 _))
    | k9 + 5, hx => simp at hx
  have D2 : va_D A (ws' (fun i => H.size + i)) := by
    rw [← hws]
    refine va_D.app hD ⟨fun i j x y hx hy hxy => ?_, fun k9 x hx => ?_⟩ (fun i j x y hx hy => ?_)
    · obtain ⟨a1, a2⟩ := mn_at hx
      obtain ⟨b1, b2⟩ := mn_at hy
      omega
    · obtain ⟨a1, a2⟩ := mn_at hx
      rw [a2]
      exact X.2.2.2.2.2.2 _ (by have := hS.1; omega)
    · obtain ⟨b1, b2⟩ := mn_at hy
      have := (hP i x hx).lt
      omega
  have S2 : va_S A s.heap FS.heap (locs ++ (List.range 4).map fun j => ⟨T.heap.size, j⟩) := by
    refine ⟨by have := hS.1; omega, fun q h1 h2 => (old q (Nat.lt_of_lt_of_le h1 hS.1)).trans (hS.2.1 q h1 h2), fun q hq => ?_⟩
    rcases List.mem_append.mp hq with h | h
    · exact hS.2.2 q h
    · obtain ⟨z, -, rfl⟩ := List.mem_map.mp h
      exact X.2.2.2.2.2.2 _ (by have := hS.1; show s.heap.size ≤ T.heap.size; omega)
  obtain ⟨t, a1, b1⟩ := kk (fun i => H.size + i) FS.heap _ ls P2 D2 S2 hL FS rfl X'
  refine ⟨t, step t ?_, b1⟩
  rw [hT2]
  exact a1
end JNM
