/-! THE JUDGEMENT J: a walk at a place of a method with its world, its locals (by index) and its stack spelled out. -/
abbrev Ev : Type := va_G × (Nat → ClassId)
abbrev Mem : Type := Nat → Nat → Int32
abbrev tysOf (E : Ev) : List (ClassId × FieldType) := [(E.2 0, .int), (E.2 1, .byte), (E.2 2, .object "StandStill$Stander"), (E.2 3, .object "StandStill$Row"), (E.2 4, .array .int)]
def upA (μ : Mem) (c : Nat) (g : Nat → Int32) : Mem := fun a => if a = c then g else μ a
def ins (μ : Mem) (o n : Nat) (ν : Mem) : Mem := fun a => if o ≤ a ∧ a < o + n then ν (a - o) else μ a
def bd {α : Type} {β : Type} (x : α) (k : α → β) : β := k x
def putW : va_W → List Nat → va_W → va_W
  | ws, i :: is, c :: cs => putW (ws.set i c) is cs
  | ws, _, _ => ws
theorem bd_e {α β : Type} {x : α} {k : α → Option β} {y : β} (h : bd x k = some y) : ∃ z, z = x ∧ k z = some y := ⟨x, rfl, h⟩
theorem oi_t {c : Prop} [Decidable c] {β : Type} {x : Option β} {y : β} (h : (if c then x else none) = some y) : c ∧ x = some y := by
  by_cases hc : c
  · rw [if_pos hc] at h; exact ⟨hc, h⟩
  · rw [if_neg hc] at h; cases h
theorem ob_t {α β : Type} {x : Option α} {k : α → Option β} {y : β} (h : x.bind k = some y) : ∃ a, x = some a ∧ k a = some y := by
  cases x with
  | none => cases h
  | some a => exact ⟨a, rfl, h⟩
def lh (ls : Array Slot) (nL : Nat) (lo : List (Option Value)) : Prop := ls.size = nL ∧ lv_wf ls ∧ ∀ (i : Nat) (v : Value), lo[i]? = some (some v) → ls[i]? = some (.val v)
def J (p : Program) (l : Launch) (e : Env) (R : Room) (s : State) (m : MethodId) (args : Array Value) (below : List Frame) (meth : Method) (c : Code) (E : Ev) (A : Nat → Prop) (nL : Nat) (Q : State → Prop) (ws : va_W) (lo : List (Option Value)) (pc : Nat) (st : List Value) : Prop :=
  ∀ (H : Heap) (locs : List Loc) (ls : Array Slot), va_P E.1 vwCl ws H → va_D A ws → va_S A s.heap H locs → lh ls nL lo → W p l e R s m args below meth c H locs 0 0 Q (F0 m pc ls st)
def CX (p : Program) (s : State) (m : MethodId) (args : Array Value) (c : Code) (own : String) (cc : ByteArray) (E : Ev) (A : Nat → Prop) (nL : Nat) : Prop :=
  p.tables.exec = Jvm.exec ∧ c.code = cc ∧ c.maxLocals = nL ∧ s.vm.findClass own = some m.cls ∧ (∀ w ∈ tbl, w.before args s = true) ∧ va_K E.1 vwCl (tysOf E) s ∧ (∀ q, s.heap.size ≤ q → A q)
/-- what a method is, when it has returned -/
def QG (E : Ev) (A : Nat → Prop) (ws : va_W) (v : Option Value) : Array Value → State → Outcome → State → Prop := fun _ st oc t => (oc = .returned v ∧ va_P E.1 vwCl ws t.heap ∧ va_K E.1 vwCl (tysOf E) t ∧ va_D A ws) ∧ va_F A st t
/-- a contract: from the world ws and the arguments to the world ws' and the answer v; nothing is made -/
def Ct (E : Ev) (y : MethodName) (cd : ByteArray) (nL : Nat) (ret : Option FieldType) (rm : Room) (ws ws' : va_W) (as : List Value) (v : Option Value) : Prop :=
  ∀ (l : Launch) (sz : Nat), Met l y (.code y cd nL ret :: tbl) rm (va_Pc as (fun U => U.heap.size = sz ∧ va_P E.1 vwCl ws U.heap ∧ va_K E.1 vwCl (tysOf E) U ∧ va_D (fun _ => True) ws)) (QG E (va_A ws sz) ws' v) 0 0 (va_A ws sz)
abbrev rmOf (f lo : Nat) : Room := { frames := f, cells := 0, slots := 0, locals := lo }
/-- the locals at a method's entry -/
def loE : List Value → List (Option Value)
  | [] => []
  | v :: vs => if v.category = 2 then some v :: none :: loE vs else some v :: loE vs
theorem lh_args : ∀ (vs : List Value) (k i : Nat) (v : Value), (loE vs)[i]? = some (some v) → (k + i, v) ∈ lv_args k vs
  | [], k, i, v, h => by simp [loE] at h
  | w :: vs, k, i, v, h => by
    by_cases hc : w.category = 2
    · simp only [loE, if_pos hc] at h
      unfold lv_args
      match i, h with
      | 0, h => simp at h; subst h; simp
      | 1, h => simp at h
      | i + 2, h =>
        have h2 : (loE vs)[i]? = some (some v) := by simpa using h
        have := lh_args vs (k + w.category) i v h2
        rw [hc] at this
        rw [show k + (i + 2) = k + 2 + i by omega]
        first | exact List.mem_cons_of_mem _ (by rw [hc]; exact this) | exact List.mem_cons_of_mem _ this
    · simp only [loE, if_neg hc] at h
      have h1 : w.category = 1 := (lv_cat w).resolve_right hc
      unfold lv_args
      match i, h with
      | 0, h => simp at h; subst h; simp
      | i + 1, h =>
        have h2 : (loE vs)[i]? = some (some v) := by simpa using h
        have := lh_args vs (k + w.category) i v h2
        rw [h1] at this
        rw [show k + (i + 1) = k + 1 + i by omega]
        first | exact List.mem_cons_of_mem _ (by rw [h1]; exact this) | exact List.mem_cons_of_mem _ this
theorem lh_entry (vs : List Value) {n : Nat} (h : (lg_sl vs).length ≤ n) : lh ((lg_sl vs ++ List.replicate (n - (lg_sl vs).length) Slot.unset).toArray) n (loE vs) := by
  obtain ⟨h1, h2, h3⟩ := lv_entry vs h
  exact ⟨h1, h2, fun i v hi => h3 (i, v) (by have := lh_args vs 0 i v hi; simpa using this)⟩
theorem lh_more {ls : Array Slot} {nL : Nat} {lo lo' : List (Option Value)} (h : lh ls nL lo) (hs : ∀ (i : Nat) (v : Value), lo'[i]? = some (some v) → lo[i]? = some (some v)) : lh ls nL lo' := ⟨h.1, h.2.1, fun i v hi => h.2.2 i v (hs i v hi)⟩
/-- the walk's list out of the locals -/
def loL (lo : List (Option Value)) : List (Nat × Value) := (List.range lo.length).filterMap (fun i => (lo[i]?.join).map (fun v => (i, v)))
theorem loL_mem {lo : List (Option Value)} {q : Nat × Value} : q ∈ loL lo ↔ lo[q.1]? = some (some q.2) := by
  unfold loL
  constructor
  · intro h
    obtain ⟨i, -, hi⟩ := List.mem_filterMap.mp h
    cases h1 : lo[i]? with
    | none => simp [h1] at hi
    | some o =>
      cases o with
      | none => simp [h1] at hi
      | some v => simp [h1] at hi; subst hi; exact h1
  · intro h
    refine List.mem_filterMap.mpr ⟨q.1, List.mem_range.mpr (List.getElem?_eq_some_iff.mp h).1, ?_⟩
    simp [h]
theorem lh_has {ls : Array Slot} {nL : Nat} {lo : List (Option Value)} (h : lh ls nL lo) : lv_has ls nL (loL lo) := ⟨h.1, h.2.1, fun q hq => h.2.2 q.1 q.2 (loL_mem.mp hq)⟩
/-- a store of one slot: the one below holds no long -/
theorem lh_st1 {ls' : Array Slot} {nL : Nat} {lo : List (Option Value)} {i : Nat} {x : Value} (h : lv_has ls' nL ((i, x) :: (loL lo).filter (fun q => !(q.1 == i) && !(q.1 + 1 == i && q.2.category == 2)))) (hb : ∀ (k : Nat) (v : Value), k + 1 = i → lo[k]? = some (some v) → v.category = 1) : lh ls' nL (lo.set i (some x)) := by
  refine ⟨h.1, h.2.1, fun k v hk => ?_⟩
  by_cases e : k = i
  · subst e
    by_cases hl : k < lo.length
    · rw [List.getElem?_set_self hl] at hk
      cases hk
      exact h.2.2 (k, x) List.mem_cons_self
    · rw [List.getElem?_eq_none (by simpa using hl)] at hk
      cases hk
  · rw [List.getElem?_set_ne (fun q => e q.symm)] at hk
    refine h.2.2 (k, v) (List.mem_cons_of_mem _ (List.mem_filter.mpr ⟨loL_mem.mpr hk, ?_⟩))
    simp only [Bool.and_eq_true, Bool.not_eq_true', beq_eq_false_iff_ne, ne_eq, Bool.and_eq_false_iff]
    refine ⟨e, ?_⟩
    by_cases e2 : k + 1 = i
    · right; rw [hb k v e2 hk]; decide
    · left; exact e2
theorem lh_st2 {ls' : Array Slot} {nL : Nat} {lo : List (Option Value)} {i : Nat} {x : Value} (h : lv_has ls' nL ((i, x) :: (loL lo).filter (fun q => !(q.1 == i) && (!(q.1 == i + 1) && !(q.1 + 1 == i && q.2.category == 2))))) (hb : ∀ (k : Nat) (v : Value), k + 1 = i → lo[k]? = some (some v) → v.category = 1) : lh ls' nL ((lo.set i (some x)).set (i + 1) none) := by
  refine ⟨h.1, h.2.1, fun k v hk => ?_⟩
  by_cases e1 : k = i + 1
  · subst e1
    by_cases hl : i + 1 < (lo.set i (some x)).length
    · rw [List.getElem?_set_self hl] at hk; cases hk
    · rw [List.getElem?_eq_none (by simpa using hl)] at hk; cases hk
  rw [List.getElem?_set_ne (fun q => e1 q.symm)] at hk
  by_cases e : k = i
  · subst e
    by_cases hl : k < lo.length
    · rw [List.getElem?_set_self hl] at hk
      cases hk
      exact h.2.2 (k, x) List.mem_cons_self
    · rw [List.getElem?_eq_none (by simpa using hl)] at hk
      cases hk
  · rw [List.getElem?_set_ne (fun q => e q.symm)] at hk
    refine h.2.2 (k, v) (List.mem_cons_of_mem _ (List.mem_filter.mpr ⟨loL_mem.mpr hk, ?_⟩))
    simp only [Bool.and_eq_true, Bool.not_eq_true', beq_eq_false_iff_ne, ne_eq, Bool.and_eq_false_iff]
    refine ⟨e, e1, ?_⟩
    by_cases e2 : k + 1 = i
    · right; rw [hb k v e2 hk]; decide
    · left; exact e2
/-- the place below holds no long -/
def noL (lo : List (Option Value)) : Nat → Bool
  | 0 => true
  | k + 1 => match lo[k]? with
    | some (some v) => v.category == 1
    | _ => true
theorem noL_ok {lo : List (Option Value)} {i : Nat} (h : noL lo i = true) : ∀ (k : Nat) (v : Value), k + 1 = i → lo[k]? = some (some v) → v.category = 1 := by
  intro k v e hk
  subst e
  simp only [noL, hk] at h
  exact eq_of_beq h
theorem putW_get : ∀ (is : List Nat) (cs ws : va_W), va_nd is = true → is.length = cs.length → ∀ (k : Nat) (q : Nat × va_E), (putW ws is cs)[k]? = some q → (∃ j : Nat, is[j]? = some k ∧ cs[j]? = some q) ∨ (k ∉ is ∧ ws[k]? = some q)
  | [], cs, ws, _, _, k, q, h => by
    right
    refine ⟨List.not_mem_nil, ?_⟩
    cases cs <;> exact h
  | i :: is, [], ws, _, hl, k, q, h => by simp at hl
  | i :: is, c :: cs, ws, hn, hl, k, q, h => by
    simp only [va_nd, Bool.and_eq_true, decide_eq_true_eq] at hn
    rcases putW_get is cs (ws.set i c) hn.2 (by simpa using hl) k q h with ⟨j, h1, h2⟩ | ⟨h1, h2⟩
    · exact Or.inl ⟨j + 1, by simpa using h1, by simpa using h2⟩
    · by_cases e : k = i
      · subst e
        by_cases hlt : k < ws.length
        · rw [List.getElem?_set_self hlt] at h2
          cases h2
          exact Or.inl ⟨0, rfl, rfl⟩
        · rw [List.getElem?_eq_none (by simpa using hlt)] at h2; cases h2
      · rw [List.getElem?_set_ne (fun q => e q.symm)] at h2
        exact Or.inr ⟨by simp [e, h1], h2⟩
/-- behind a call: the caller's cells, the callee's put back in their places -/
theorem putW_join {A0 : Nat → Prop} {D : va_G} {cl : List vw_C} {ws wc w1 : va_W} {H H1 : Heap} (hP : va_P D cl ws H) (hD : va_D A0 ws) (is : List Nat) (hC : is.map (fun i => ws[i]?) = wc.map some) (hn : va_nd is = true) (hlen : is.length = w1.length)
    (hk : ∀ q : Nat, q < H.size → ¬ va_A wc H.size q → H1[q]? = H[q]?) (hF : ∀ q, va_A wc H.size q → A0 q) (hP1 : va_P D cl w1 H1) (hD1 : va_D (va_A wc H.size) w1) : va_P D cl (putW ws is w1) H1 ∧ va_D A0 (putW ws is w1) := by
  have at' : ∀ (k : Nat) (q : Nat × va_E), wc[k]? = some q → ∃ i, is[k]? = some i ∧ ws[i]? = some q := by
    intro k q hq
    have h1 : (is.map (fun i => ws[i]?))[k]? = some (some q) := by rw [hC, List.getElem?_map, hq]; rfl
    rw [List.getElem?_map] at h1
    cases hi : is[k]? with
    | none => rw [hi] at h1; cases h1
    | some i => rw [hi] at h1; exact ⟨i, rfl, Option.some.inj h1⟩
  have apart : ∀ (i : Nat) (q : Nat × va_E), i ∉ is → ws[i]? = some q → q.1 < H.size ∧ ¬ va_A wc H.size q.1 := by
    intro i q hi h2
    have hl := (hP i q h2).lt
    refine ⟨hl, fun h => ?_⟩
    rcases h with ⟨k2, e, h⟩ | h
    · obtain ⟨j, h3, h4⟩ := at' k2 (q.1, e) h
      have hij := hD.1 i j q (q.1, e) h2 h4 rfl
      subst hij
      exact hi (List.mem_of_getElem? h3)
    · omega
  refine ⟨fun k q hq => ?_, fun i j x y hx hy hxy => ?_, fun k q hq => ?_⟩
  · rcases putW_get is w1 ws hn hlen k q hq with ⟨j, -, h2⟩ | ⟨h1, h2⟩
    · exact hP1 j q h2
    · obtain ⟨g1, g2⟩ := apart k q h1 h2
      exact (hP k q h2).kept (hk q.1 g1 g2)
  · rcases putW_get is w1 ws hn hlen i x hx with ⟨a, a1, a2⟩ | ⟨a1, a2⟩ <;> rcases putW_get is w1 ws hn hlen j y hy with ⟨b, b1, b2⟩ | ⟨b1, b2⟩
    · have hab := hD1.1 a b x y a2 b2 hxy
      subst hab
      rw [a1] at b1
      exact Option.some.inj b1
    · exact absurd (by rw [← hxy]; exact hD1.2 a x a2) (apart j y b1 b2).2
    · exact absurd (by rw [hxy]; exact hD1.2 b y b2) (apart i x a1 a2).2
    · exact hD.1 i j x y a2 b2 hxy
  · rcases putW_get is w1 ws hn hlen k q hq with ⟨j, -, h2⟩ | ⟨h1, h2⟩
    · exact hF _ (hD1.2 j q h2)
    · exact hD.2 k q h2
theorem tbl_g {w : Cond} (h : w ∈ tbl) : w ∈ tbl ∧ ((w.onTables && w.keeps) = true ∨ ∃ ty, w = .arrayClass ty) := ⟨h, good_of_word (List.mem_filter.mp h).2⟩
theorem gi_app {ws : List Cond} {w : Cond} (h : ∀ v ∈ ws, v ∈ tbl) (hw : w ∈ tbl) : GoodIn tbl (ws ++ (w :: tbl)) := by
  intro v hv
  rcases List.mem_append.mp hv with h1 | h1
  · exact tbl_g (h v h1)
  · rcases List.mem_cons.mp h1 with rfl | h2
    · exact tbl_g hw
    · exact tbl_g h2
theorem m4 {a b c d : Cond} (ha : a ∈ tbl) (hb : b ∈ tbl) (hc : c ∈ tbl) (hd : d ∈ tbl) : ∀ v ∈ ([a, b, c, d] : List Cond), v ∈ tbl := by
  intro v hv
  simp only [List.mem_cons, List.not_mem_nil, or_false] at hv
  rcases hv with rfl | rfl | rfl | rfl <;> assumption
theorem m3 {a b c : Cond} (ha : a ∈ tbl) (hb : b ∈ tbl) (hc : c ∈ tbl) : ∀ v ∈ ([a, b, c] : List Cond), v ∈ tbl := by
  intro v hv
  simp only [List.mem_cons, List.not_mem_nil, or_false] at hv
  rcases hv with rfl | rfl | rfl <;> assumption
theorem m5 {a b c d f : Cond} (ha : a ∈ tbl) (hb : b ∈ tbl) (hc : c ∈ tbl) (hd : d ∈ tbl) (hf : f ∈ tbl) : ∀ v ∈ ([a, b, c, d, f] : List Cond), v ∈ tbl := by
  intro v hv
  simp only [List.mem_cons, List.not_mem_nil, or_false] at hv
  rcases hv with rfl | rfl | rfl | rfl | rfl <;> assumption
theorem m6 {a b c d f g : Cond} (ha : a ∈ tbl) (hb : b ∈ tbl) (hc : c ∈ tbl) (hd : d ∈ tbl) (hf : f ∈ tbl) (hg : g ∈ tbl) : ∀ v ∈ ([a, b, c, d, f, g] : List Cond), v ∈ tbl := by
  intro v hv
  simp only [List.mem_cons, List.not_mem_nil, or_false] at hv
  rcases hv with rfl | rfl | rfl | rfl | rfl | rfl <;> assumption
