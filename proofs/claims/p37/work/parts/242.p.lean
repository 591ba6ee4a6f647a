theorem up5 {u n d b : Nat} (A : ∀ e g, b ≤ e → b ≤ g → OKP u n d (rec_Lt e).2.2.2.2.2.1 (rec_Mt g).2.2.2.2.2) : ∀ e g, b + 5 ≤ e → b + 5 ≤ g → OKP u n d (rec_Lt e).1 (rec_Mt g).1 := by
  intro e g he hg
  obtain ⟨e, rfl⟩ : ∃ x, e = x + 5 := ⟨e - 5, by omega⟩
  obtain ⟨g, rfl⟩ : ∃ x, g = x + 5 := ⟨g - 5, by omega⟩
  have a1 : OKP u n d (rec_Lt (e + 1)).2.2.2.2.1 (rec_Mt (g + 1)).2.2.2.2.1 := prod_k (rc := rec_Lt e) (rm := rec_Mt g) (A e g (by omega) (by omega))
  have a2 : OKP u n d (rec_Lt (e + 2)).2.2.2.1 (rec_Mt (g + 2)).2.2.2.1 := sum_k (rc := rec_Lt (e + 1)) (rm := rec_Mt (g + 1)) a1
  have a3 : OKP u n d (rec_Lt (e + 3)).2.2.1 (rec_Mt (g + 3)).2.2.1 := comp_k (rc := rec_Lt (e + 2)) (rm := rec_Mt (g + 2)) a2
  have a4 : OKP u n d (rec_Lt (e + 4)).2.1 (rec_Mt (g + 4)).2.1 := both_k (rc := rec_Lt (e + 3)) (rm := rec_Mt (g + 3)) a3
  exact either_k (rc := rec_Lt (e + 4)) (rm := rec_Mt (g + 4)) a4
theorem lev {u n : Nat} : ∀ k d, d + k = 5 → (∀ e g, 8 * k + 2 ≤ e → 8 * k + 2 ≤ g → OKP u n d (rec_Lt e).2.2.2.2.2.1 (rec_Mt g).2.2.2.2.2) ∧ (∀ e g, 8 * k + 7 ≤ e → 8 * k + 7 ≤ g → OKP u n d (rec_Lt e).1 (rec_Mt g).1) := by
  intro k
  induction k with
  | zero =>
    intro d hd
    have A : ∀ e g, 2 ≤ e → 2 ≤ g → OKP u n d (rec_Lt e).2.2.2.2.2.1 (rec_Mt g).2.2.2.2.2 := by
      intro e g he hg
      obtain ⟨e, rfl⟩ : ∃ x, e = x + 1 := ⟨e - 1, by omega⟩
      obtain ⟨g, rfl⟩ : ∃ x, g = x + 1 := ⟨g - 1, by omega⟩
      exact unit_k (rc := rec_Lt e) (rc2 := rec_Lt e) (rm := rec_Mt g) (by omega) (fun h => by omega)
    exact ⟨fun e g he hg => A e g (by omega) (by omega), fun e g he hg => up5 A e g (by omega) (by omega)⟩
  | succ k ih =>
    intro d hd
    obtain ⟨i1, i2⟩ := ih (d + 1) (by omega)
    have A : ∀ e g, 8 * (k + 1) + 2 ≤ e → 8 * (k + 1) + 2 ≤ g → OKP u n d (rec_Lt e).2.2.2.2.2.1 (rec_Mt g).2.2.2.2.2 := by
      intro e g he hg
      obtain ⟨e, rfl⟩ : ∃ x, e = x + 2 := ⟨e - 2, by omega⟩
      obtain ⟨g, rfl⟩ : ∃ x, g = x + 1 := ⟨g - 1, by omega⟩
      exact unit_k (rc := rec_Lt (e + 1)) (rc2 := rec_Lt e) (rm := rec_Mt g) (by omega) (fun h => ⟨rfl, i2 e g (by omega) (by omega), i1 (e + 1) g (by omega) (by omega)⟩)
    exact ⟨fun e g he hg => A e g (by omega) (by omega), fun e g he hg => up5 A e g (by omega) (by omega)⟩
theorem either_ok {u n : Nat} : OKP u n 0 f_X1_readEither f_X12_whole := (lev 5 0 (by omega)).2 64 64 (by omega) (by omega)
/-- the class reads a text, and the reference -/
def M3 (lam : Mem) (n : Nat) : Mem := upA (upA (upA lam 0 (upd (lam 0) 7 (nI n))) 0 (upd ((upA lam 0 (upd (lam 0) 7 (nI n))) 0) 8 0)) 0 (upd ((upA (upA lam 0 (upd (lam 0) 7 (nI n))) 0 (upd ((upA lam 0 (upd (lam 0) 7 (nI n))) 0) 8 0)) 0) 5 0)
theorem read_ok {u n : Nat} {lam nu nu5 : Mem} (hu : u < 2) (hn : n ≤ 60) (l0 : lam 0 0 = nI (if u = 0 then 115 else 100)) (n2 : nu 1 2 = nI n)
    (ht : ∀ j, j < 60 → ∃ v, v < 256 ∧ nu 1 (303 + j) = nI v ∧ lam 4 j = if v < 128 then nI v else nI v - 256)
    (h8 : nu5 0 8 = nI u) (h5 : nu5 0 5 = 0) (h6 : nu5 0 6 = 0) (h7 : nu5 0 7 = 0) (ho : Off [0] nu nu5) (hx : ∀ i, i ≠ 5 → i ≠ 6 → i ≠ 7 → i ≠ 8 → nu5 0 i = nu 0 i) :
    ∃ l y bo m z, f_X1_read lam (nI n) = some (l, y, bo) ∧ f_X12_whole nu5 = some (m, z) ∧ Off [0, 3] lam l ∧ l 0 0 = lam 0 0 ∧ Off [0, 5] nu m ∧ (∀ i, i ≠ 5 → i ≠ 6 → i ≠ 7 → i ≠ 8 → m 0 i = nu 0 i) ∧
      ((bo = false ∧ 0 ≤ y ∧ m 0 5 = y ∧ (z = 0 ∨ ¬ z = 0 ∧ ¬ m 0 5 = nI n) ∧ l 0 3 = lam 0 3) ∨
       (bo = true ∧ y = -1 ∧ ¬ z = 0 ∧ m 0 5 = nI n ∧ ∃ c D, c ≤ 60 ∧ l 0 3 = nI c ∧ m 0 7 = nI c ∧ CO u c D (l 3) (m 5))) := by
  have e60 : (if (60 : Int32) < nI n then (60 : Int32) else nI n) = nI n := by
    rw [if_neg (by rw [show (60 : Int32) = nI 60 from rfl, nI_ltI (by omega) (by omega)]; omega)]
  have m0 : ∀ i, i ≠ 5 → i ≠ 7 → i ≠ 8 → M3 lam n 0 i = lam 0 i := fun i h5 h7 h8 => by unfold M3; rw [upA_s, upd_o _ _ h5, upA_s, upd_o _ _ h8, upA_s, upd_o _ _ h7]
  have mo : Off [0] lam (M3 lam n) := ((Off.upA (by decide)).trans (Off.upA (by decide))).trans (Off.upA (by decide))
  have t : TP u n (M3 lam n) nu5 := by
    refine ⟨hu, hn, ?_, ?_, h8, ?_, fun j hj => ?_⟩
    · unfold M3; rw [upA_s, upd_o _ _ (by decide), upA_s, upd_o _ _ (by decide), upA_s, upd_s]
    · rw [ho 1 (by decide)]; exact n2
    · rw [m0 0 (by decide) (by decide) (by decide)]; exact l0
    · rw [ho 1 (by decide), mo 4 (by decide)]; exact ht j hj
  have p : PS u n 0 0 0 0 (M3 lam n) nu5 := by
    refine ⟨?_, h5, by omega, h6, ?_, h7, by omega, by omega, fun _ => 0, rfl, rfl, fun j hj => by omega⟩
    · unfold M3; rw [upA_s, upd_o _ _ (by decide), upA_s, upd_s]; rfl
    · unfold M3; rw [upA_s, upd_s]; rfl
  obtain ⟨⟨l, y⟩, ⟨m, z⟩, e1, e2, f, hh⟩ := either_ok (u := u) (n := n) _ _ _ _ _ t p
  have f1 : Off [0, 3] lam l := (mo.mono (by decide)).trans f.1
  have f2 : ∀ i, i ≠ 5 → i ≠ 7 → i ≠ 8 → l 0 i = lam 0 i := fun i h5 h7 h8 => (f.2.1 i h5 h8).trans (m0 i h5 h7 h8)
  have f3 : Off [0, 5] nu m := (ho.mono (by decide)).trans f.2.2.1
  have f4 : ∀ i, i ≠ 5 → i ≠ 6 → i ≠ 7 → i ≠ 8 → m 0 i = nu 0 i := fun i h5 h6 h7 h8 => (f.2.2.2 i h5 h6 h7).trans (hx i h5 h6 h7 h8)
  have l7 : l 0 7 = nI n := (f.2.1 7 (by decide) (by decide)).trans t.2.2.1
  have e1' : f_X1_readEither (M3 lam n) (0 : Int32) = some (l, y) := e1
  unfold f_X1_read
  rw [e60]
  simp only [bd]
  rw [show (upA (upA (upA lam 0 (upd (lam 0) 7 (nI n))) 0 (upd ((upA lam 0 (upd (lam 0) 7 (nI n))) 0) 8 0)) 0 (upd ((upA (upA lam 0 (upd (lam 0) 7 (nI n))) 0 (upd ((upA lam 0 (upd (lam 0) 7 (nI n))) 0) 8 0)) 0) 5 0)) = M3 lam n from rfl, e1']
  simp only [Option.bind_some]
  rcases hh with ⟨q1, q2, fl⟩ | ⟨q1, q2, p', c', -, -, q3⟩
  · obtain rfl : y = 0 := q1
    obtain rfl : z = 0 := q2
    obtain ⟨p, c, hp, -, p8, p5, -⟩ := fl
    have p8' : l 0 8 = nI p := p8
    rw [if_pos rfl, p8']
    exact ⟨_, _, _, _, _, rfl, e2, f1, f2 0 (by decide) (by decide) (by decide), f3, f4, Or.inl ⟨rfl, nI_pos' (by omega), p5, Or.inl rfl, f2 3 (by decide) (by decide) (by decide)⟩⟩
  · obtain rfl : y = 1 := q1
    obtain rfl : z = 1 := q2
    obtain ⟨p8, p5, hp, -, c5, c7, cp, -, co⟩ := q3
    have p8' : l 0 8 = nI p' := p8
    have p5' : m 0 5 = nI p' := p5
    rw [if_neg n10, l7, p8']
    by_cases e : n ≤ p'
    · have : p' = n := by omega
      subst this
      rw [if_pos (Int32.le_refl _)]
      refine ⟨_, _, _, _, _, rfl, e2, f1.trans (Off.upA (by decide)), ?_, f3, f4, Or.inr ⟨rfl, rfl, n10, p5', c', 0 + 1, by omega, ?_, c7, ?_⟩⟩
      · rw [upA_s, upd_o _ _ (by decide)]; exact f2 0 (by decide) (by decide) (by decide)
      · rw [upA_s, upd_s]; exact c5
      · rw [upA_o _ _ (by decide)]; exact co
    · rw [if_neg (by rw [nI_leI (by omega) (by omega)]; exact e)]
      exact ⟨_, _, _, _, _, rfl, e2, f1, f2 0 (by decide) (by decide) (by decide), f3, f4, Or.inl ⟨rfl, nI_pos' (by omega), p5', Or.inr ⟨n10, by rw [p5', nI_inj (by omega) (by omega)]; omega⟩, f2 3 (by decide) (by decide) (by decide)⟩⟩
theorem textC {u c : Nat} (hu : u < 2) (hc : c ≤ 60) : ∀ (r x : Nat) (nu : Mem) (f : Nat), x + r = 2 * c → r < f → nu 0 7 = nI c →
    f_X12_text_L101 f nu (nI (53 + 125 * u)) (nI x) = some (upA nu 1 (fun i => if 54 + 125 * u + x ≤ i ∧ i < 54 + 125 * u + 2 * c then nu 5 (i - (54 + 125 * u)) else nu 1 i), 1) := by
  intro r
  induction r with
  | zero =>
    intro x nu f hx hf h7
    obtain ⟨f, rfl⟩ : ∃ f', f = f' + 1 := ⟨f - 1, by omega⟩
    rw [f_X12_text_L101, h7, show (2 : Int32) = nI 2 from rfl, nI_mulI, if_pos ((nI_leI (by omega) (by omega)).mpr (by omega))]
    refine congrArg some (congrArg (fun m => (m, (1 : Int32))) (funext fun a => ?_))
    by_cases h : a = 1
    · subst h; rw [upA_s]; funext i; rw [if_neg (by omega)]
    · rw [upA_o _ _ h]
  | succ r ih =>
    intro x nu f hx hf h7
    obtain ⟨f, rfl⟩ : ∃ f', f = f' + 1 := ⟨f - 1, by omega⟩
    rw [f_X12_text_L101, h7, show (2 : Int32) = nI 2 from rfl, nI_mulI, if_neg (by rw [nI_leI (by omega) (by omega)]; omega), if_pos (in_k (show x < 124 by omega) (by omega)), cl_I (by omega), nI_1, nI_add, nI_1,
      if_pos (in_k (show 53 + 125 * u + 1 + x < 387 by omega) (by omega)), cl_I (by omega)]
    simp only [bd]
    rw [ih (x + 1) _ f (by omega) (by omega) (by rw [upA_o _ _ (by decide)]; exact h7), upA_s, upA_2, upA_o _ _ (show (5 : Nat) ≠ 1 by decide)]
    refine congrArg some (congrArg (fun m => (m, (1 : Int32))) (congrArg (upA nu 1) (funext fun i => ?_)))
    by_cases hi : i = 53 + 125 * u + 1 + x
    · subst hi
      rw [upd_s, if_neg (by omega), if_pos (by omega)]
      congr 1; omega
    · rw [upd_o _ _ hi]
      by_cases h2 : 54 + 125 * u + x ≤ i ∧ i < 54 + 125 * u + 2 * c
      · rw [if_pos (by omega), if_pos h2]
      · rw [if_neg (by omega), if_neg h2]
