/-! what the law's entry gives: the classes, the facts that constructors and a few methods ask -/
theorem env_arr {args : Array Value} {s : State} {ty : FieldType} (h : (Cond.arrayClass ty).before args s = true) : ∃ (cA : ClassId) (kA : Class) (comp : ClassId), s.vm.findClass ("[" ++ ty.toString) = some cA ∧ s.vm.classes[cA]? = some kA ∧ kA.kind = .array comp ty := by
  simp only [Cond.before, Cond.holds, Cond.value] at h
  cases h1 : s.vm.findClass ("[" ++ ty.toString) with
  | none => simp [h1] at h
  | some cA =>
    cases h2 : s.vm.classes[cA]? with
    | none => simp [h1, h2] at h
    | some kA =>
      cases h3 : kA.kind with
      | array comp t =>
        simp [h1, h2, h3] at h
        subst h
        exact ⟨cA, kA, comp, rfl, h2, h3⟩
      | _ => simp [h1, h2, h3] at h
theorem env_arr2 {args : Array Value} {s : State} (h : (Cond.arrayOver (.array .int)).before args s = true) : ∃ (comp c : ClassId) (k : Class), s.vm.findClass "[I" = some comp ∧ s.vm.classes[c]? = some k ∧ k.kind = .array comp (.array .int) ∧ s.vm.findClass "[[I" = some c := by
  have e1 : (FieldType.array .int).toString = "[I" := by decide +kernel
  have e2 : "[" ++ (FieldType.array .int).toString = "[[I" := by decide +kernel
  simp only [Cond.before, Cond.holds, Cond.value, e1] at h
  cases h1 : s.vm.findClass "[I" with
  | none => simp [h1] at h
  | some comp =>
    rw [h1] at h
    simp only [Option.bind_some] at h
    generalize h2 : Array.findIdx? _ s.vm.classes = F at h
    cases F with
    | none => simp at h
    | some c =>
      simp only [Option.bind_some] at h
      cases h3 : s.vm.classes[c]? with
      | none => simp [h3] at h
      | some k =>
        rw [h3] at h
        obtain ⟨hlt, hp, -⟩ := Array.findIdx?_eq_some_iff_getElem.mp h2
        have hk : s.vm.classes[c] = k := by
          have := Array.getElem?_eq_getElem hlt
          rw [h3] at this
          exact (Option.some.inj this).symm
        rw [hk] at hp
        cases h4 : k.kind with
        | array comp' t =>
          rw [h4] at hp
          have hc : comp' = comp := eq_of_beq hp
          simp only [Option.map_some, h4] at h
          have h5 : t = .array .int ∧ s.vm.findClass ("[" ++ "[I") = some c := by simpa using h
          exact ⟨comp, c, k, rfl, h3, by rw [h4, hc, h5.1], (show "[" ++ "[I" = "[[I" by decide +kernel) ▸ h5.2⟩
        | _ => rw [h4] at hp; cases hp
theorem lw_of {w : Cond} (i : Nat) (h : lw_tbl[i]? = some w) : w ∈ lw_tbl := List.mem_of_getElem? h
