theorem sub_lt3 {m a n : Nat} (hm : m < 1000) (ha : a < 2 ^ 31) (hn : n < 2 ^ 31) : nI m - nI a < nI n ↔ m < a + n := by
  by_cases h : a ≤ m
  · rw [nI_subI h, nI_ltI (by omega) hn]; omega
  · have e : nI m - nI a = -(nI (a - m)) := by
      rw [← nI_subI (show m ≤ a by omega), Int32.neg_sub]
    have l : (nI m - nI a).toInt < 0 := by
      rw [e, Int32.toInt_neg, nI_toInt (show a - m < 2 ^ 31 by omega), Int.bmod_def]
      split <;> omega
    constructor
    · intro _; omega
    · intro _
      rw [Int32.lt_iff_toInt_lt, nI_toInt hn]
      omega
theorem stand_k {μ : Mem} {i m : Nat} (hi : i < 4) (hm : m ≤ 24) (e : μ 83 i = nI m) (x2 x5 : Int32) :
    (f_X11_stand μ (nI i) x2 x5 = some (μ, 0) ∧ (x5 < 0 ∨ x2 < 0 ∨ ∃ a n, a < 2 ^ 31 ∧ n < 2 ^ 31 ∧ x2 = nI a ∧ x5 = nI n ∧ m < a + n)) ∨
    (f_X11_stand μ (nI i) x2 x5 = some (μ, 1) ∧ ∃ a n, a < 2 ^ 31 ∧ n < 2 ^ 31 ∧ x2 = nI a ∧ x5 = nI n ∧ a + n ≤ m) := by
  unfold f_X11_stand
  by_cases h5 : x5 < 0
  · rw [if_pos h5]; exact Or.inl ⟨rfl, Or.inl h5⟩
  · rw [if_neg h5]
    by_cases h2 : x2 < 0
    · rw [if_pos h2]; exact Or.inl ⟨rfl, Or.inr (Or.inl h2)⟩
    · obtain ⟨n, hn, rfl⟩ := nI_of h5
      obtain ⟨a, ha, rfl⟩ := nI_of h2
      rw [if_neg h2, if_pos (in_k hi (by omega)), cl_I (by omega), e]
      by_cases l : m < a + n
      · rw [if_pos ((sub_lt3 (by omega) ha hn).mpr l)]
        exact Or.inl ⟨rfl, Or.inr (Or.inr ⟨a, n, ha, hn, rfl, rfl, l⟩)⟩
      · rw [if_neg (fun h => l ((sub_lt3 (by omega) ha hn).mp h))]
        exact Or.inr ⟨rfl, a, n, ha, hn, rfl, rfl, by omega⟩
theorem bufL {i j a b n : Nat} (hi : i < 4) (ha : a + n ≤ 24) : ∀ (r x : Nat) (ν : Mem) (f : Nat), x + r = n → r < f →
    f_X12_move_L115 f ν (nI i) (nI a) (nI j) (nI b) (nI n) (nI x) = f_X12_move_L152 fuel0 (upA ν 13 (fun k => if x ≤ k ∧ k < n then ν 12 (24 * i + a + k) else ν 13 k)) (nI j) (nI b) (nI n) (nI 0) := by
  intro r
  induction r with
  | zero =>
    intro x ν f hx hf
    obtain ⟨f, rfl⟩ : ∃ f', f = f' + 1 := ⟨f - 1, by omega⟩
    rw [f_X12_move_L115, if_pos ((nI_leI (by omega) (by omega)).mpr (by omega))]
    have : upA ν 13 (fun k => if x ≤ k ∧ k < n then ν 12 (24 * i + a + k) else ν 13 k) = ν := by
      funext c
      by_cases h : c = 13
      · subst h; rw [upA_s]; funext k; rw [if_neg (by omega)]
      · rw [upA_o _ _ h]
    rw [this]
    rfl
  | succ r ih =>
    intro x ν f hx hf
    obtain ⟨f, rfl⟩ : ∃ f', f = f' + 1 := ⟨f - 1, by omega⟩
    rw [f_X12_move_L115, if_neg (by rw [nI_leI (by omega) (by omega)]; omega), show (24 : Int32) = nI 24 from rfl, nI_mulI, nI_add, nI_add, if_pos (in_k (show 24 * i + a + x < 96 by omega) (by omega)), cl_I (show 24 * i + a + x < 2 ^ 31 by omega),
      if_pos (in_k (show x < 24 by omega) (by omega)), cl_I (show x < 2 ^ 31 by omega), bd_eq, nI_1, ih (x + 1) _ f (by omega) (by omega), upA_2, upA_s, upA_o _ _ (show (12 : Nat) ≠ 13 by decide)]
    refine congrArg (fun g => f_X12_move_L152 fuel0 (upA ν 13 g) (nI j) (nI b) (nI n) (nI 0)) (funext fun k => ?_)
    by_cases hk : k = x
    · subst hk; rw [upd_s, if_neg (by omega), if_pos (by omega)]
    · rw [upd_o _ _ hk]
      by_cases h2 : x ≤ k ∧ k < n
      · rw [if_pos (by omega), if_pos h2]
      · rw [if_neg (by omega), if_neg h2]
theorem moveL {j b n : Nat} (hj : j < 4) (hb : b + n ≤ 24) : ∀ (r x : Nat) (ν : Mem) (f : Nat), x + r = n → r < f →
    f_X12_move_L152 f ν (nI j) (nI b) (nI n) (nI x) = some (upA ν 12 (fun k => if 24 * j + b + x ≤ k ∧ k < 24 * j + b + n then ν 13 (k - (24 * j + b)) else ν 12 k), nI n) := by
  intro r
  induction r with
  | zero =>
    intro x ν f hx hf
    obtain ⟨f, rfl⟩ : ∃ f', f = f' + 1 := ⟨f - 1, by omega⟩
    rw [f_X12_move_L152, if_pos ((nI_leI (by omega) (by omega)).mpr (by omega))]
    refine congrArg some (congrArg (fun m => (m, nI n)) (funext fun c => ?_))
    by_cases h : c = 12
    · subst h; rw [upA_s]; funext k; rw [if_neg (by omega)]
    · rw [upA_o _ _ h]
  | succ r ih =>
    intro x ν f hx hf
    obtain ⟨f, rfl⟩ : ∃ f', f = f' + 1 := ⟨f - 1, by omega⟩
    rw [f_X12_move_L152, if_neg (by rw [nI_leI (by omega) (by omega)]; omega), if_pos (in_k (show x < 24 by omega) (by omega)), cl_I (show x < 2 ^ 31 by omega), show (24 : Int32) = nI 24 from rfl, nI_mulI, nI_add, nI_add,
      if_pos (in_k (show 24 * j + b + x < 96 by omega) (by omega)), cl_I (show 24 * j + b + x < 2 ^ 31 by omega), bd_eq, nI_1, ih (x + 1) _ f (by omega) (by omega), upA_2, upA_s, upA_o _ _ (show (13 : Nat) ≠ 12 by decide)]
    refine congrArg some (congrArg (fun g => (upA ν 12 g, nI n)) (funext fun k => ?_))
    by_cases hk : k = 24 * j + b + x
    · subst hk; rw [upd_s, if_neg (by omega), if_pos (by omega)]
      congr 1; omega
    · rw [upd_o _ _ hk]
      by_cases h2 : 24 * j + b + x ≤ k ∧ k < 24 * j + b + n
      · rw [if_pos (by omega), if_pos h2]
      · rw [if_neg (by omega), if_neg h2]
theorem move_n {μ ν : Mem} (h : Rel μ ν) {i j a b n : Nat} (hi : i < 4) (hj : j < 4) (ha : a + n ≤ 24) (hb : b + n ≤ 24) :
    ∃ ν', f_X12_move_L115 fuel0 ν (nI i) (nI a) (nI j) (nI b) (nI n) (0 : Int32) = some (ν', nI n) ∧ Rel (upA μ (78 + j) (va_cpy (μ (78 + i)) (μ (78 + j)) a b n)) ν' := by
  refine ⟨_, (bufL hi ha n 0 ν fuel0 (by omega) (fuel_ge n (by omega))).trans (moveL hj hb n 0 _ fuel0 (by omega) (fuel_ge n (by omega))), h.sheets (Off.upA (p78 hj)) ((Off.upA (by decide)).trans (Off.upA (by decide))) ?_⟩
  intro k hk
  obtain ⟨e82, ws, ⟨m, m24, e83, e11⟩, eq⟩ := h.sh k hk
  have eqi := (h.sh i hi).2.2.2
  rw [upA_o _ _ (show 82 ≠ 78 + j by omega), upA_o _ _ (show 83 ≠ 78 + j by omega), upA_o _ _ (show (10 : Nat) ≠ 12 by decide), upA_o _ _ (show (11 : Nat) ≠ 12 by decide), upA_o _ _ (show (10 : Nat) ≠ 13 by decide), upA_o _ _ (show (11 : Nat) ≠ 13 by decide), upA_s, upA_s, upA_o _ _ (show (12 : Nat) ≠ 13 by decide)]
  refine ⟨e82, ws, ⟨m, m24, e83, e11⟩, fun l hl => ?_⟩
  by_cases e : k = j
  · subst e
    rw [upA_s]
    unfold va_cpy
    by_cases f : b ≤ l ∧ l < b + n
    · rw [if_pos f, if_pos (by omega), if_pos (by omega), eqi _ (by omega)]
      congr 1; omega
    · rw [if_neg f, if_neg (by omega)]; exact eq l hl
  · rw [upA_o _ _ (show 78 + k ≠ 78 + j by omega), if_neg (by omega)]; exact eq l hl
theorem miss_m {μ ν : Mem} {i : Nat} (hi : i < 4) (e : μ 82 i = ν 10 i) : f_X11_isMissing μ (nI i) = some (μ, if ν 10 i = 0 then (1 : Int32) else (0 : Int32)) := by
  unfold f_X11_isMissing
  rw [if_pos (in_k hi (by omega)), cl_I (by omega), e]
  by_cases a : ν 10 i = 0
  · rw [if_pos a, if_pos a]
  · rw [if_neg a, if_neg a]
abbrev FC (μ : Mem) (c : Int32) : Option (Mem × Int32) := (f_X11_fails μ c).bind fun q => some (q.1, q.2)
abbrev FR (ν : Mem) (c : Int32) : Option (Mem × Int32) := (f_X12_error ν c).bind fun q => some (q.1, q.2)
theorem mvC {μ ν : Mem} {i j : Nat} (hi : i < 4) (hj : j < 4) (e82 : μ 82 i = ν 10 i) (f82 : μ 82 j = ν 10 j) (x2 x4 x5 : Int32) : f_X11_move μ (nI i) x2 (nI j) x4 x5 = (if ν 10 i = 0 then FC μ 2 else if ν 10 j = 0 then FC μ 2 else if ν 10 i = ν 10 j then
    (f_X11_stand μ (nI i) x2 x5).bind fun q9 => (if q9.2 = 0 then FC q9.1 1 else (f_X11_stand q9.1 (nI j) x4 x5).bind fun q11 => (if q11.2 = 0 then FC q11.1 1 else
      (if inc x2 x4 x5 24 24 = true then some (upA q11.1 (78 + j) (va_cpy (q11.1 (78 + i)) (q11.1 (78 + j)) x2.toNatClampNeg x4.toNatClampNeg x5.toNatClampNeg), x5) else none))) else FC μ 5) := by
  rw [mv_k hi hj, miss_m hi e82, Option.bind_some]
  by_cases a : ν 10 i = 0
  · rw [if_pos a, if_pos a, if_neg n1]
  · rw [if_neg a, if_neg a, if_pos rfl, miss_m (μ := (μ, (0 : Int32)).1) hj f82, Option.bind_some]
    by_cases b : ν 10 j = 0
    · rw [if_pos b, if_pos b, if_neg n1]
    · rw [if_neg b, if_neg b, if_pos rfl]
      by_cases w : ν 10 i = ν 10 j
      · rw [if_pos w, if_pos (show μ 82 i = μ 82 j by rw [e82, f82]; exact w)]
      · rw [if_neg w, if_neg (show ¬ μ 82 i = μ 82 j by rw [e82, f82]; exact w)]
theorem mvR {ν : Mem} {i j m m' : Nat} (hi : i < 4) (hj : j < 4) (e11 : ν 11 i = nI m) (f11 : ν 11 j = nI m') (x2 x4 x5 : Int32) : f_X12_move ν (nI i) x2 (nI j) x4 x5 = (if ν 10 i = 0 then FR ν 2 else if ν 10 j = 0 then FR ν 2 else if ν 10 i = ν 10 j then
    (if x5 < 0 then FR ν 1 else if x2 < 0 then FR ν 1 else if x4 < 0 then FR ν 1 else if nI m - x5 < x2 then FR ν 1 else if x4 ≤ nI m' - x5 then f_X12_move_L115 fuel0 ν (nI i) x2 (nI j) x4 x5 (0 : Int32) else FR ν 1) else FR ν 5) := by
  have i4' := in_k (show i < 4 from hi) (by omega)
  have j4' := in_k (show j < 4 from hj) (by omega)
  have ci : (nI i).toNatClampNeg = i := cl_I (by omega)
  have cj : (nI j).toNatClampNeg = j := cl_I (by omega)
  have e2 : ∀ k, k < 4 → f_X12_isSheet (nI k) = some 1 := by decide
  unfold f_X12_move
  rw [e2 i hi, Option.bind_some, if_neg n1, e2 j hj, Option.bind_some, if_neg n1]
  simp only [i4', j4', ci, cj, if_true, e11, f11]
theorem move_op {μ ν : Mem} (h : Rel μ ν) (x x2 y x4 x5 : Int32) : Sim RA (f_X11_move μ x x2 y x4 x5) (f_X12_move ν x x2 y x4 x5) := by
  have E1 : Sim RA (FC μ 1) (FR ν 1) := h.err (c := 1) (by omega)
  have E2 : Sim RA (FC μ 2) (FR ν 2) := h.err (c := 2) (by omega)
  have E5 : Sim RA (FC μ 5) (FR ν 5) := h.err (c := 5) (by omega)
  rcases sheet_cases x with ⟨e1, e2⟩ | ⟨e1, e2, i, hi, rfl⟩
  · unfold f_X11_move f_X12_move
    rw [e1, e2]
    exact E1
  · rcases sheet_cases y with ⟨f1, f2⟩ | ⟨f1, f2, j, hj, rfl⟩
    · have a1 : f_X11_move μ (nI i) x2 y x4 x5 = FC μ 1 := by
        unfold f_X11_move
        rw [e1, Option.bind_some, if_neg n1, f1, Option.bind_some, if_pos rfl]
      have a2 : f_X12_move ν (nI i) x2 y x4 x5 = FR ν 1 := by
        unfold f_X12_move
        rw [e2, Option.bind_some, if_neg n1, f2, Option.bind_some, if_pos rfl]
      rw [a1, a2]
      exact E1
    · obtain ⟨e82, ws, ⟨m, m24, e83, e11⟩, eq⟩ := h.sh i hi
      obtain ⟨f82, wt, ⟨m', n24, f83, f11⟩, eq'⟩ := h.sh j hj
      rw [mvC hi hj e82 f82, mvR hi hj e11 f11]
      by_cases a : ν 10 i = 0
      · rw [if_pos a, if_pos a]; exact E2
      rw [if_neg a, if_neg a]
      by_cases b : ν 10 j = 0
      · rw [if_pos b, if_pos b]; exact E2
      rw [if_neg b, if_neg b]
      by_cases w : ν 10 i = ν 10 j
      · rw [if_pos w, if_pos w]
        rcases stand_k hi m24 e83 x2 x5 with ⟨s1, s2⟩ | ⟨s1, p, n, hp, hn, rfl, rfl, s2⟩
        · rw [s1, Option.bind_some, if_pos rfl]
          have R : (if x5 < 0 then FR ν 1 else if x2 < 0 then FR ν 1 else if x4 < 0 then FR ν 1 else if nI m - x5 < x2 then FR ν 1 else if x4 ≤ nI m' - x5 then f_X12_move_L115 fuel0 ν (nI i) x2 (nI j) x4 x5 (0 : Int32) else FR ν 1) = FR ν 1 := by
            rcases s2 with s2 | s2 | ⟨p, n, hp, hn, rfl, rfl, s2⟩
            · rw [if_pos s2]
            · rw [if_pos s2, ite_self]
            · have l : nI m - nI n < nI p := (sub_lt3 (by omega) hn hp).mpr (by omega)
              rw [if_pos l, ite_self, ite_self, ite_self]
          rw [R]
          exact E1
        · have l1 : ¬ nI m - nI n < nI p := fun k => by have := (sub_lt3 (by omega) hn hp).mp k; omega
          rw [s1, Option.bind_some, if_neg n1, if_neg (nI_pos hn), if_neg (nI_pos hp), if_neg l1]
          rcases stand_k hj n24 f83 x4 (nI n) with ⟨t1, t2⟩ | ⟨t1, p', n', hp', hn', rfl, en, t2⟩
          · rw [show f_X11_stand (μ, (1 : Int32)).1 (nI j) x4 (nI n) = _ from t1, Option.bind_some, if_pos rfl]
            have R : (if x4 < 0 then FR ν 1 else if x4 ≤ nI m' - nI n then f_X12_move_L115 fuel0 ν (nI i) (nI p) (nI j) x4 (nI n) (0 : Int32) else FR ν 1) = FR ν 1 := by
              rcases t2 with t2 | t2 | ⟨p', n', hp', hn', rfl, en, t2⟩
              · exact absurd t2 (nI_pos hn)
              · rw [if_pos t2]
              · have := (nI_inj hn hn').mp en
                subst this
                have l2 : ¬ nI p' ≤ nI m' - nI n := fun k => Int32.not_lt.mpr k ((sub_lt3 (by omega) hn hp').mpr (by omega))
                rw [if_neg (nI_pos hp'), if_neg l2]
            rw [R]
            exact E1
          · have := (nI_inj hn hn').mp en
            subst this
            have ic : inc (nI p) (nI p') (nI n) 24 24 = true := by
              unfold inc
              rw [decide_eq_true_eq]
              refine ⟨nI_pos hp, nI_pos hp', nI_pos hn, ?_, ?_⟩
              · rw [cl_I hp, cl_I hn]; omega
              · rw [cl_I hp', cl_I hn]; omega
            have l3 : nI p' ≤ nI m' - nI n := Int32.not_lt.mp (fun k => by have := (sub_lt3 (by omega) hn hp').mp k; omega)
            obtain ⟨ν', r1, r2⟩ := move_n h (a := p) (b := p') (n := n) hi hj (by omega) (by omega)
            rw [show f_X11_stand (μ, (1 : Int32)).1 (nI j) (nI p') (nI n) = _ from t1, Option.bind_some, if_neg n1, if_pos ic, if_neg (nI_pos hp'), if_pos l3, cl_I hp, cl_I hp', cl_I hn, r1]
            exact Sim.pure ⟨rfl, r2⟩
      · rw [if_neg w, if_neg w]
        exact E5
