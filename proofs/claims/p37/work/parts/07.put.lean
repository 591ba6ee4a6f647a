/-! putW, worked out cell by cell -/
def putA (is : List Nat) (cs : va_W) : Nat → va_W → va_W
  | _, [] => []
  | k, w :: ws => (match ixO is 0 k with
    | some j => cs.getD j w
    | none => w) :: putA is cs (k + 1) ws
theorem ixO_shift : ∀ (P : List Nat) (n k : Nat), ixO P (n + 1) k = (ixO P n k).map (· + 1)
  | [], _, _ => rfl
  | p :: P, n, k => by
    by_cases h : k = p
    · simp [ixO, h]
    · simp only [ixO, if_neg h]
      exact ixO_shift P (n + 1) k
theorem ixO_none : ∀ (P : List Nat) (n k : Nat), k ∉ P → ixO P n k = none
  | [], _, _, _ => rfl
  | p :: P, n, k, h => by
    simp only [List.mem_cons, not_or] at h
    simp only [ixO, if_neg h.1]
    exact ixO_none P (n + 1) k h.2
theorem putW_at : ∀ (is : List Nat) (cs ws : va_W), va_nd is = true → is.length = cs.length → ∀ k : Nat, (putW ws is cs)[k]? = match ixO is 0 k with
    | some j => if k < ws.length then cs[j]? else none
    | none => ws[k]?
  | [], cs, ws, _, _, k => by cases cs <;> rfl
  | i :: is, [], ws, _, hl, k => by simp at hl
  | i :: is, c :: cs, ws, hn, hl, k => by
    simp only [va_nd, Bool.and_eq_true, decide_eq_true_eq] at hn
    show (putW (ws.set i c) is cs)[k]? = _
    rw [putW_at is cs (ws.set i c) hn.2 (by simpa using hl) k]
    by_cases e : k = i
    · subst e
      rw [ixO_none is 0 k hn.1]
      simp only [ixO, if_pos rfl]
      by_cases hlt : k < ws.length
      · rw [List.getElem?_set_self hlt]
        simp [hlt]
      · rw [List.getElem?_eq_none (by simpa using hlt)]
        simp [hlt]
    · simp only [ixO, if_neg e]
      rw [ixO_shift is 0 k]
      cases ixO is 0 k with
      | none => simp only [Option.map]; rw [List.getElem?_set_ne (fun q => e q.symm)]
      | some j => simp
theorem putA_at (is : List Nat) (cs : va_W) : ∀ (ws : va_W) (o k : Nat), (putA is cs o ws)[k]? = match ixO is 0 (o + k) with
    | some j => (ws[k]?).map (fun w => cs.getD j w)
    | none => ws[k]?
  | [], o, k => by simp only [putA]; cases ixO is 0 (o + k) <;> simp
  | w :: ws, o, 0 => by
    simp only [putA, Nat.add_zero]
    cases ixO is 0 o <;> simp
  | w :: ws, o, k + 1 => by
    have h := putA_at is cs ws (o + 1) k
    rw [show o + 1 + k = o + (k + 1) by omega] at h
    simp only [putA, List.getElem?_cons_succ]
    exact h
theorem ixO_lt : ∀ (P : List Nat) (n k j : Nat), ixO P n k = some j → j < n + P.length
  | [], _, _, _, h => by cases h
  | p :: P, n, k, j, h => by
    by_cases e : k = p
    · simp only [ixO, if_pos e] at h; cases h; simp
    · simp only [ixO, if_neg e] at h
      have := ixO_lt P (n + 1) k j h
      simp only [List.length_cons]; omega
theorem putW_A {ws cs ws' : va_W} {is : List Nat} (hn : va_nd is = true) (hl : is.length = cs.length) (h : putA is cs 0 ws = ws') : putW ws is cs = ws' := by
  subst h
  apply List.ext_getElem?
  intro k
  rw [putW_at is cs ws hn hl k, putA_at is cs ws 0 k, Nat.zero_add]
  cases hj : ixO is 0 k with
  | none => rfl
  | some j =>
    have hlt : j < cs.length := by have := ixO_lt is 0 k j hj; omega
    by_cases hk : k < ws.length
    · simp [hk, hlt]
    · simp [hk]
theorem putW_all {ws ws' : va_W} {n : Nat} (hn : va_nd (List.range n) = true) (h1 : ws.length = n) (h2 : ws'.length = n) : putW ws (List.range n) ws' = ws' := by
  apply List.ext_getElem?
  intro k
  rw [putW_at _ _ _ hn (by rw [List.length_range, h2]) k]
  by_cases hk : k < n
  · have : ixO (List.range n) 0 k = some k := by
      have key : ∀ (m a o : Nat), a ≤ k → k < a + m → ixO (List.range' a m) o k = some (o + (k - a)) := by
        intro m
        induction m with
        | zero => intro a o h1 h2; omega
        | succ m ih =>
          intro a o h1 h2
          simp only [List.range'_succ, ixO]
          by_cases e : k = a
          · rw [if_pos e, e]; simp
          · rw [if_neg e, ih (a + 1) (o + 1) (by omega) (by omega)]
            congr 1; omega
      rw [List.range_eq_range', key n 0 0 (Nat.zero_le _) (by omega)]
      simp
    rw [this]
    simp [h1, hk]
  · rw [ixO_none _ _ _ (by simpa using hk)]
    simp only
    rw [List.getElem?_eq_none (by omega), List.getElem?_eq_none (by omega)]
theorem cutAll {ws : va_W} {n : Nat} (h : ws.length = n) : (List.range n).map (fun i => ws[i]?) = ws.map some := by
  apply List.ext_getElem?
  intro k
  simp only [List.getElem?_map]
  by_cases hk : k < n
  · rw [List.getElem?_range hk]
    have hl : k < ws.length := by omega
    simp [hl]
  · rw [List.getElem?_eq_none (by simpa using hk), List.getElem?_eq_none (by omega)]
    rfl
