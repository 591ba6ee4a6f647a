/-- what a voice changes -/
theorem Rel.speak {μ ν μ' ν' : Mem} (h : Rel μ ν) (o : Off [74, 75, 76] μ μ') (o' : Off [0, 9] ν ν') (h3 : ν' 0 3 = ν 0 3) (t1 : ∃ n, n ≤ 30 ∧ μ' 74 3 = nI n) (t2 : ∃ n, n ≤ 30 ∧ ν' 0 14 = nI n) : Rel μ' ν' := by
  have e1 : ν' 1 = ν 1 := o' 1 (by decide)
  refine ⟨h.nr.pl (fun j hj => o _ ?_) e1, ?_, ?_, ?_, ?_, t1, t2, ?_, ?_⟩
  · have : ∀ j, j < 22 → PN.getD j 0 ∉ [74, 75, 76] := by decide
    exact this j hj
  · rw [o 1 (by decide), o 2 (by decide), o 3 (by decide), e1]; exact h.ex
  · rw [o 0 (by decide), h3]; exact h.im
  · rw [o 0 (by decide)]
    intro hz
    obtain ⟨⟨⟨q, hq, r⟩, z⟩, ex⟩ := h.kp hz
    have sj : sub PK μ' = sub PK μ := by
      funext j
      show μ' (PK.getD j 0) = μ (PK.getD j 0)
      refine o _ ?_
      by_cases hj : j < 22
      · have : ∀ j, j < 22 → PK.getD j 0 ∉ [74, 75, 76] := by decide
        exact this j hj
      · rw [getD_big (by show 22 ≤ j; omega)]; decide
    refine ⟨⟨⟨q, hq, ?_⟩, ?_⟩, ?_⟩
    · rw [sj, o' 2 (by decide)]; exact r
    · rw [sj]; exact z
    · rw [o 4 (by decide), o 5 (by decide), o 6 (by decide), o' 2 (by decide)]; exact ex
  · intro i hi
    rw [o 82 (by decide), o 83 (by decide), o' 10 (by decide), o' 11 (by decide), o' 12 (by decide), o (78 + i) (by
      have : ∀ i, i < 4 → 78 + i ∉ [74, 75, 76] := by decide
      exact this i hi)]
    exact h.sh i hi
  · rw [o 7 (by decide)]; exact h.tr.2.2.1
  · rw [o 11 (by decide)]; exact h.tr.2.2.2
theorem keep_ok {τ : Mem} {n : Nat} (hn : n ≤ 30) (e : τ 0 6 = nI n) : ∃ τ', f_X6_keep τ = some τ' ∧ Off [0, 1] τ τ' ∧ τ' 0 3 = nI n := by
  have i : inc (0 : Int32) (0 : Int32) (nI n) 30 30 = true := by
    unfold inc
    rw [decide_eq_true_eq, cl_I (show n < 2 ^ 31 by omega), show (0 : Int32).toNatClampNeg = 0 by decide]
    exact ⟨by decide, by decide, nI_pos (by omega), by omega, by omega⟩
  unfold f_X6_keep
  rw [e, if_pos i]
  simp only [bd]
  refine ⟨_, rfl, (Off.upA (by decide)).trans (Off.upA (by decide)), ?_⟩
  rw [upA_s, upd_s, upA_o _ _ (show (0 : Nat) ≠ 1 by decide), e]
theorem voice_fin {k K : Nat} {μ ν : Mem} (h : Rel μ ν) {σs νs : Mem} (hs : Off [0] (sub PV μ) σs) (s3 : σs 0 3 = μ 74 3) (hn : Off [0] ν νs) (n3 : νs 0 3 = ν 0 3) {a b : Mem} {y : Int32} {p : Int32} (v : VS k K p σs νs a b) :
    Sim RA (f_X11_voice_L141 (put PV (put PV μ σs) a) y) (f_X12_voice_L94 b y) := by
  obtain ⟨h0, h1, h2, h3, ⟨n, n30, h4⟩, ⟨m, m30, h5⟩, h6, h7, h8, h9, h10, h11⟩ := v
  have hs1 : sub PV (put PV μ σs) = σs := sub_putG PV_ap (by decide) hs
  have ha : Off [0, 2] (sub PV (put PV μ σs)) a := by rw [hs1]; exact h8
  have o1 : Off [74] μ (put PV μ σs) := put_offG (by decide) hs
  have o2 : Off [74, 76] (put PV μ σs) (put PV (put PV μ σs) a) := put_offG (by decide) ha
  have O : Off [74, 75, 76] μ (put PV (put PV μ σs) a) := (o1.mono (by decide)).trans (o2.mono (by decide))
  have O' : Off [0, 9] ν b := (hn.mono (by decide)).trans h9
  have e74 : put PV (put PV μ σs) a 74 = a 0 := put_at PV_ap (put PV μ σs) a (j := 0) (by omega)
  have b3 : b 0 3 = ν 0 3 := h11.trans n3
  generalize put PV (put PV μ σs) a = μt at O e74
  unfold f_X11_voice_L141 f_X12_voice_L94
  rw [e74, h2, h3]
  by_cases hp : p = 0
  · rw [if_pos hp, if_pos hp]
    obtain ⟨τ, k1, k2, k3⟩ := keep_ok (τ := sub PV μt) n30 (by show μt 74 6 = nI n; rw [e74]; exact h4)
    rw [k1, Option.bind_some, bd_eq]
    have e2 : put PV μt τ 74 = τ 0 := put_at PV_ap μt τ (j := 0) (by omega)
    refine Sim.pure ⟨rfl, h.speak (O.trans ((put_offG (P := PV) (M := [74, 75]) (by decide) k2).mono (by decide))) O' b3 ⟨n, n30, ?_⟩ ⟨m, m30, h5⟩⟩
    show put PV μt τ 74 3 = nI n
    rw [e2, k3]
  · rw [if_neg hp, if_neg hp]
    have t := h.tr.1
    have R : Rel μt b := h.speak O O' b3 (by rw [e74, h10, s3]; exact t) ⟨m, m30, h5⟩
    exact R.err (c := 6) (by omega)
/-- as a voice starts, in both -/
def VgC (μ : Mem) (k : Nat) : Mem := upA (sub PV μ) 0 (upd (upd (upd (upd (μ 74) 0 (nI k)) 1 (μ 25 k)) 2 0) 6 0)
def VgR (ν : Mem) (k : Nat) : Mem := upA ν 0 (upd (upd (upd (ν 0) 14 0) 15 (nI k)) 16 0)
theorem starts_k (μ : Mem) (k : Nat) : f_X6_starts (sub PV μ) (nI k) (μ 25 k) = some (VgC μ k) := by
  unfold f_X6_starts VgC
  simp only [bd]
  rw [upA_2, upA_2, upA_2, upA_s, upA_s, upA_s]
  rfl
theorem VgC_off (μ : Mem) (k : Nat) : Off [0] (sub PV μ) (VgC μ k) := Off.upA (by decide)
theorem VgR_off (ν : Mem) (k : Nat) : Off [0] ν (VgR ν k) := Off.upA (by decide)
theorem VgC_3 (μ : Mem) (k : Nat) : VgC μ k 0 3 = μ 74 3 := by
  unfold VgC
  rw [upA_s, upd_o _ _ (by decide), upd_o _ _ (by decide), upd_o _ _ (by decide), upd_o _ _ (by decide)]
theorem VgR_3 (ν : Mem) (k : Nat) : VgR ν k 0 3 = ν 0 3 := by
  unfold VgR
  rw [upA_s, upd_o _ _ (by decide), upd_o _ _ (by decide), upd_o _ _ (by decide)]
theorem VS_0 {k K : Nat} {μ ν : Mem} (hk : k < 9) (hK : K < 7) (e : ν 1 (8 + 5 * k + 0) = nI K) (f : μ 25 k = ν 1 (8 + 5 * k + 1)) : VS k K 0 (VgC μ k) (VgR ν k) (VgC μ k) (VgR ν k) := by
  have n1' : VgR ν k 1 = ν 1 := VgR_off ν k 1 (by decide)
  refine ⟨?_, ?_, ?_, ?_, ⟨0, by omega, ?_⟩, ⟨0, by omega, ?_⟩, ?_, ⟨hk, hK, ?_⟩, Off.refl _ _, Off.refl _ _, rfl, rfl⟩
  · unfold VgC; rw [upA_s, upd_o _ _ (by decide), upd_o _ _ (by decide), upd_o _ _ (by decide), upd_s]
  · rw [n1']; unfold VgC; rw [upA_s, upd_o _ _ (by decide), upd_o _ _ (by decide), upd_s]; exact f
  · unfold VgC; rw [upA_s, upd_o _ _ (by decide), upd_s]
  · unfold VgR; rw [upA_s, upd_s]
  · unfold VgC; rw [upA_s, upd_s]; rfl
  · unfold VgR; rw [upA_s, upd_o _ _ (by decide), upd_o _ _ (by decide), upd_s]; rfl
  · unfold VgR; rw [upA_s, upd_o _ _ (by decide), upd_s]
  · rw [n1']; exact e
theorem run_v {k K : Nat} {μ ν : Mem} (h : Rel μ ν) {x : Int32} {c r : Mem → Int32 → Option (Mem × Int32)} (hb : BP k K (VgC μ k) (VgR ν k) c r) (v : VS k K 0 (VgC μ k) (VgR ν k) (VgC μ k) (VgR ν k)) :
    Sim RA ((c (VgC μ k) x).bind fun q => f_X11_voice_L141 (put PV (put PV μ (VgC μ k)) q.1) q.2) ((r (VgR ν k) x).bind fun q => f_X12_voice_L94 q.1 q.2) := by
  refine (hb _ _ x v).bind ?_
  rintro ⟨a, y⟩ ⟨b, w⟩ ⟨e, p, v1⟩
  obtain rfl : y = w := e
  exact voice_fin h (VgC_off μ k) (VgC_3 μ k) (VgR_off ν k) (VgR_3 ν k) v1
theorem one_1 {k : Nat} (hk : k < 9) : f_X11_isStander (nI k) = some 1 ∧ f_X12_isOne (nI k) = some 1 := by
  have h : ∀ k, k < 9 → f_X11_isStander (nI k) = some 1 ∧ f_X12_isOne (nI k) = some 1 := by decide
  exact h k hk
theorem win_1 {c : Nat} (hc : c < 4) : f_X11_within (nI c) (0 : Int32) (3 : Int32) = some 1 := by
  have h : ∀ c, c < 4 → f_X11_within (nI c) (0 : Int32) (3 : Int32) = some 1 := by decide
  exact h c hc
theorem v12_0 {ν : Mem} {k K : Nat} (hk : k < 9) (e : ν 1 (8 + 5 * k + 0) = nI K) (x : Int32) : f_X12_voice ν (nI k) (nI 0) x = (f_X12_holdsAs (VgR ν k) (nI K) x).bind fun q => f_X12_voice_L94 q.1 q.2 := by
  have kn : f_X12_kindNow (VgR ν k) = some (VgR ν k, nI K) := by
    have n15 : VgR ν k 0 15 = nI k := by unfold VgR; rw [upA_s, upd_o _ _ (by decide), upd_s]
    unfold f_X12_kindNow
    rw [n15, show (0 : Int32) = nI 0 from rfl, its_k _ 0 hk (by omega), Option.bind_some, VgR_off ν k 1 (by decide), e]
  have ng : upA (upA (upA ν 0 (upd (ν 0) 14 (0 : Int32))) 0 (upd ((upA ν 0 (upd (ν 0) 14 (0 : Int32))) 0) 15 (nI k))) 0 (upd ((upA (upA ν 0 (upd (ν 0) 14 (0 : Int32))) 0 (upd ((upA ν 0 (upd (ν 0) 14 (0 : Int32))) 0) 15 (nI k))) 0) 16 (0 : Int32)) = VgR ν k := by
    unfold VgR
    rw [upA_2, upA_2, upA_s, upA_s]
  unfold f_X12_voice
  rw [(one_1 hk).2, Option.bind_some, if_neg n1, in_same, win_1 (by omega), Option.bind_some, if_neg n1, bd_eq, bd_eq, bd_eq, ng, kn, Option.bind_some]
  simp only [eq_true (show nI 0 = (0 : Int32) by decide), if_true, if_false]
theorem v12_1 {ν : Mem} {k K : Nat} (hk : k < 9) (e : ν 1 (8 + 5 * k + 0) = nI K) (x : Int32) : f_X12_voice ν (nI k) (nI 1) x = (f_X12_leansAs (VgR ν k) (nI K) x).bind fun q => f_X12_voice_L94 q.1 q.2 := by
  have kn : f_X12_kindNow (VgR ν k) = some (VgR ν k, nI K) := by
    have n15 : VgR ν k 0 15 = nI k := by unfold VgR; rw [upA_s, upd_o _ _ (by decide), upd_s]
    unfold f_X12_kindNow
    rw [n15, show (0 : Int32) = nI 0 from rfl, its_k _ 0 hk (by omega), Option.bind_some, VgR_off ν k 1 (by decide), e]
  have ng : upA (upA (upA ν 0 (upd (ν 0) 14 (0 : Int32))) 0 (upd ((upA ν 0 (upd (ν 0) 14 (0 : Int32))) 0) 15 (nI k))) 0 (upd ((upA (upA ν 0 (upd (ν 0) 14 (0 : Int32))) 0 (upd ((upA ν 0 (upd (ν 0) 14 (0 : Int32))) 0) 15 (nI k))) 0) 16 (0 : Int32)) = VgR ν k := by
    unfold VgR
    rw [upA_2, upA_2, upA_s, upA_s]
  unfold f_X12_voice
  rw [(one_1 hk).2, Option.bind_some, if_neg n1, in_same, win_1 (by omega), Option.bind_some, if_neg n1, bd_eq, bd_eq, bd_eq, ng, kn, Option.bind_some]
  simp only [eq_true (show nI 1 = (1 : Int32) by decide), eq_false (show ¬ nI 1 = (0 : Int32) by decide), if_true, if_false]
theorem v12_2 {ν : Mem} {k K : Nat} (hk : k < 9) (e : ν 1 (8 + 5 * k + 0) = nI K) (x : Int32) : f_X12_voice ν (nI k) (nI 2) x = (f_X12_swaysAs (VgR ν k) (nI K) x).bind fun q => f_X12_voice_L94 q.1 q.2 := by
  have kn : f_X12_kindNow (VgR ν k) = some (VgR ν k, nI K) := by
    have n15 : VgR ν k 0 15 = nI k := by unfold VgR; rw [upA_s, upd_o _ _ (by decide), upd_s]
    unfold f_X12_kindNow
    rw [n15, show (0 : Int32) = nI 0 from rfl, its_k _ 0 hk (by omega), Option.bind_some, VgR_off ν k 1 (by decide), e]
  have ng : upA (upA (upA ν 0 (upd (ν 0) 14 (0 : Int32))) 0 (upd ((upA ν 0 (upd (ν 0) 14 (0 : Int32))) 0) 15 (nI k))) 0 (upd ((upA (upA ν 0 (upd (ν 0) 14 (0 : Int32))) 0 (upd ((upA ν 0 (upd (ν 0) 14 (0 : Int32))) 0) 15 (nI k))) 0) 16 (0 : Int32)) = VgR ν k := by
    unfold VgR
    rw [upA_2, upA_2, upA_s, upA_s]
  unfold f_X12_voice
  rw [(one_1 hk).2, Option.bind_some, if_neg n1, in_same, win_1 (by omega), Option.bind_some, if_neg n1, bd_eq, bd_eq, bd_eq, ng, kn, Option.bind_some]
  simp only [eq_true (show nI 2 = (2 : Int32) by decide), eq_false (show ¬ nI 2 = (0 : Int32) by decide), eq_false (show ¬ nI 2 = (1 : Int32) by decide), if_true, if_false]
theorem v12_3 {ν : Mem} {k K : Nat} (hk : k < 9) (e : ν 1 (8 + 5 * k + 0) = nI K) (x : Int32) : f_X12_voice ν (nI k) (nI 3) x = (f_X12_partsAs (VgR ν k) (nI K) x).bind fun q => f_X12_voice_L94 q.1 q.2 := by
  have kn : f_X12_kindNow (VgR ν k) = some (VgR ν k, nI K) := by
    have n15 : VgR ν k 0 15 = nI k := by unfold VgR; rw [upA_s, upd_o _ _ (by decide), upd_s]
    unfold f_X12_kindNow
    rw [n15, show (0 : Int32) = nI 0 from rfl, its_k _ 0 hk (by omega), Option.bind_some, VgR_off ν k 1 (by decide), e]
  have ng : upA (upA (upA ν 0 (upd (ν 0) 14 (0 : Int32))) 0 (upd ((upA ν 0 (upd (ν 0) 14 (0 : Int32))) 0) 15 (nI k))) 0 (upd ((upA (upA ν 0 (upd (ν 0) 14 (0 : Int32))) 0 (upd ((upA ν 0 (upd (ν 0) 14 (0 : Int32))) 0) 15 (nI k))) 0) 16 (0 : Int32)) = VgR ν k := by
    unfold VgR
    rw [upA_2, upA_2, upA_s, upA_s]
  unfold f_X12_voice
  rw [(one_1 hk).2, Option.bind_some, if_neg n1, in_same, win_1 (by omega), Option.bind_some, if_neg n1, bd_eq, bd_eq, bd_eq, ng, kn, Option.bind_some]
  simp only [eq_true (show nI 3 = (3 : Int32) by decide), eq_false (show ¬ nI 3 = (0 : Int32) by decide), eq_false (show ¬ nI 3 = (1 : Int32) by decide), eq_false (show ¬ nI 3 = (2 : Int32) by decide), if_true, if_false]
theorem v11_00 {μ : Mem} {k : Nat} (hk : k < 9) (e : sub PN μ 1 k = nI 0) (x : Int32) : f_X11_voice μ (nI k) (nI 0) x = (f_X7_holds_k0 (VgC μ k) x).bind fun q => f_X11_voice_L141 (put PV (put PV μ (VgC μ k)) q.1) q.2 := by
  have kk : f_X4_kindOf (sub PN μ) (nI k) = some (sub PN μ, 15) := kind_k hk (by omega) e
  have hs1 : sub PV (put PV μ (VgC μ k)) = VgC μ k := sub_putG PV_ap (by decide) (VgC_off μ k)
  unfold f_X11_voice
  rw [(one_1 hk).1, Option.bind_some, if_neg n1, win_1 (by omega), Option.bind_some, if_neg n1, kk, Option.bind_some, bd_eq, put_self, if_pos (show (15 : Nat) = 15 from rfl), if_pos (in_k hk (by omega)), cl_I (show k < 2 ^ 31 by omega), starts_k, Option.bind_some, bd_eq, if_pos (show nI 0 = (0 : Int32) by decide), hs1]
  rfl
theorem v11_01 {μ : Mem} {k : Nat} (hk : k < 9) (e : sub PN μ 1 k = nI 0) (x : Int32) : f_X11_voice μ (nI k) (nI 1) x = (f_X7_leans_k0 (VgC μ k) x).bind fun q => f_X11_voice_L141 (put PV (put PV μ (VgC μ k)) q.1) q.2 := by
  have kk : f_X4_kindOf (sub PN μ) (nI k) = some (sub PN μ, 15) := kind_k hk (by omega) e
  have hs1 : sub PV (put PV μ (VgC μ k)) = VgC μ k := sub_putG PV_ap (by decide) (VgC_off μ k)
  unfold f_X11_voice
  rw [(one_1 hk).1, Option.bind_some, if_neg n1, win_1 (by omega), Option.bind_some, if_neg n1, kk, Option.bind_some, bd_eq, put_self, if_pos (show (15 : Nat) = 15 from rfl), if_pos (in_k hk (by omega)), cl_I (show k < 2 ^ 31 by omega), starts_k, Option.bind_some, bd_eq, if_neg (show ¬ nI 1 = (0 : Int32) by decide), if_pos (show nI 1 = (1 : Int32) by decide), hs1]
  rfl
theorem v11_02 {μ : Mem} {k : Nat} (hk : k < 9) (e : sub PN μ 1 k = nI 0) (x : Int32) : f_X11_voice μ (nI k) (nI 2) x = (f_X7_sways_k0 (VgC μ k) x).bind fun q => f_X11_voice_L141 (put PV (put PV μ (VgC μ k)) q.1) q.2 := by
  have kk : f_X4_kindOf (sub PN μ) (nI k) = some (sub PN μ, 15) := kind_k hk (by omega) e
  have hs1 : sub PV (put PV μ (VgC μ k)) = VgC μ k := sub_putG PV_ap (by decide) (VgC_off μ k)
  unfold f_X11_voice
  rw [(one_1 hk).1, Option.bind_some, if_neg n1, win_1 (by omega), Option.bind_some, if_neg n1, kk, Option.bind_some, bd_eq, put_self, if_pos (show (15 : Nat) = 15 from rfl), if_pos (in_k hk (by omega)), cl_I (show k < 2 ^ 31 by omega), starts_k, Option.bind_some, bd_eq, if_neg (show ¬ nI 2 = (0 : Int32) by decide), if_neg (show ¬ nI 2 = (1 : Int32) by decide), if_pos (show nI 2 = (2 : Int32) by decide), hs1]
  rfl
theorem v11_03 {μ : Mem} {k : Nat} (hk : k < 9) (e : sub PN μ 1 k = nI 0) (x : Int32) : f_X11_voice μ (nI k) (nI 3) x = (f_X7_parts_k0 (VgC μ k) x).bind fun q => f_X11_voice_L141 (put PV (put PV μ (VgC μ k)) q.1) q.2 := by
  have kk : f_X4_kindOf (sub PN μ) (nI k) = some (sub PN μ, 15) := kind_k hk (by omega) e
  have hs1 : sub PV (put PV μ (VgC μ k)) = VgC μ k := sub_putG PV_ap (by decide) (VgC_off μ k)
  unfold f_X11_voice
  rw [(one_1 hk).1, Option.bind_some, if_neg n1, win_1 (by omega), Option.bind_some, if_neg n1, kk, Option.bind_some, bd_eq, put_self, if_pos (show (15 : Nat) = 15 from rfl), if_pos (in_k hk (by omega)), cl_I (show k < 2 ^ 31 by omega), starts_k, Option.bind_some, bd_eq, if_neg (show ¬ nI 3 = (0 : Int32) by decide), if_neg (show ¬ nI 3 = (1 : Int32) by decide), if_neg (show ¬ nI 3 = (2 : Int32) by decide), hs1]
  rfl
theorem v11_10 {μ : Mem} {k : Nat} (hk : k < 9) (e : sub PN μ 1 k = nI 1) (x : Int32) : f_X11_voice μ (nI k) (nI 0) x = (f_X0_holds_k1 (VgC μ k) x).bind fun q => f_X11_voice_L141 (put PV (put PV μ (VgC μ k)) q.1) q.2 := by
  have kk : f_X4_kindOf (sub PN μ) (nI k) = some (sub PN μ, 16) := kind_k hk (by omega) e
  have hs1 : sub PV (put PV μ (VgC μ k)) = VgC μ k := sub_putG PV_ap (by decide) (VgC_off μ k)
  unfold f_X11_voice
  rw [(one_1 hk).1, Option.bind_some, if_neg n1, win_1 (by omega), Option.bind_some, if_neg n1, kk, Option.bind_some, bd_eq, put_self, if_neg (show ¬ (16 : Nat) = 15 by decide), if_pos (show (16 : Nat) = 16 from rfl), if_pos (in_k hk (by omega)), cl_I (show k < 2 ^ 31 by omega), starts_k, Option.bind_some, bd_eq, if_pos (show nI 0 = (0 : Int32) by decide), hs1]
  rfl
theorem v11_11 {μ : Mem} {k : Nat} (hk : k < 9) (e : sub PN μ 1 k = nI 1) (x : Int32) : f_X11_voice μ (nI k) (nI 1) x = (f_X7_leans_k1 (VgC μ k) x).bind fun q => f_X11_voice_L141 (put PV (put PV μ (VgC μ k)) q.1) q.2 := by
  have kk : f_X4_kindOf (sub PN μ) (nI k) = some (sub PN μ, 16) := kind_k hk (by omega) e
  have hs1 : sub PV (put PV μ (VgC μ k)) = VgC μ k := sub_putG PV_ap (by decide) (VgC_off μ k)
  unfold f_X11_voice
  rw [(one_1 hk).1, Option.bind_some, if_neg n1, win_1 (by omega), Option.bind_some, if_neg n1, kk, Option.bind_some, bd_eq, put_self, if_neg (show ¬ (16 : Nat) = 15 by decide), if_pos (show (16 : Nat) = 16 from rfl), if_pos (in_k hk (by omega)), cl_I (show k < 2 ^ 31 by omega), starts_k, Option.bind_some, bd_eq, if_neg (show ¬ nI 1 = (0 : Int32) by decide), if_pos (show nI 1 = (1 : Int32) by decide), hs1]
  rfl
theorem v11_12 {μ : Mem} {k : Nat} (hk : k < 9) (e : sub PN μ 1 k = nI 1) (x : Int32) : f_X11_voice μ (nI k) (nI 2) x = (f_X7_sways_k1 (VgC μ k) x).bind fun q => f_X11_voice_L141 (put PV (put PV μ (VgC μ k)) q.1) q.2 := by
  have kk : f_X4_kindOf (sub PN μ) (nI k) = some (sub PN μ, 16) := kind_k hk (by omega) e
  have hs1 : sub PV (put PV μ (VgC μ k)) = VgC μ k := sub_putG PV_ap (by decide) (VgC_off μ k)
  unfold f_X11_voice
  rw [(one_1 hk).1, Option.bind_some, if_neg n1, win_1 (by omega), Option.bind_some, if_neg n1, kk, Option.bind_some, bd_eq, put_self, if_neg (show ¬ (16 : Nat) = 15 by decide), if_pos (show (16 : Nat) = 16 from rfl), if_pos (in_k hk (by omega)), cl_I (show k < 2 ^ 31 by omega), starts_k, Option.bind_some, bd_eq, if_neg (show ¬ nI 2 = (0 : Int32) by decide), if_neg (show ¬ nI 2 = (1 : Int32) by decide), if_pos (show nI 2 = (2 : Int32) by decide), hs1]
  rfl
theorem v11_13 {μ : Mem} {k : Nat} (hk : k < 9) (e : sub PN μ 1 k = nI 1) (x : Int32) : f_X11_voice μ (nI k) (nI 3) x = (f_X0_parts_k1 (VgC μ k) x).bind fun q => f_X11_voice_L141 (put PV (put PV μ (VgC μ k)) q.1) q.2 := by
  have kk : f_X4_kindOf (sub PN μ) (nI k) = some (sub PN μ, 16) := kind_k hk (by omega) e
  have hs1 : sub PV (put PV μ (VgC μ k)) = VgC μ k := sub_putG PV_ap (by decide) (VgC_off μ k)
  unfold f_X11_voice
  rw [(one_1 hk).1, Option.bind_some, if_neg n1, win_1 (by omega), Option.bind_some, if_neg n1, kk, Option.bind_some, bd_eq, put_self, if_neg (show ¬ (16 : Nat) = 15 by decide), if_pos (show (16 : Nat) = 16 from rfl), if_pos (in_k hk (by omega)), cl_I (show k < 2 ^ 31 by omega), starts_k, Option.bind_some, bd_eq, if_neg (show ¬ nI 3 = (0 : Int32) by decide), if_neg (show ¬ nI 3 = (1 : Int32) by decide), if_neg (show ¬ nI 3 = (2 : Int32) by decide), hs1]
  rfl
theorem v11_20 {μ : Mem} {k : Nat} (hk : k < 9) (e : sub PN μ 1 k = nI 2) (x : Int32) : f_X11_voice μ (nI k) (nI 0) x = (f_X7_holds_k2 (VgC μ k) x).bind fun q => f_X11_voice_L141 (put PV (put PV μ (VgC μ k)) q.1) q.2 := by
  have kk : f_X4_kindOf (sub PN μ) (nI k) = some (sub PN μ, 17) := kind_k hk (by omega) e
  have hs1 : sub PV (put PV μ (VgC μ k)) = VgC μ k := sub_putG PV_ap (by decide) (VgC_off μ k)
  unfold f_X11_voice
  rw [(one_1 hk).1, Option.bind_some, if_neg n1, win_1 (by omega), Option.bind_some, if_neg n1, kk, Option.bind_some, bd_eq, put_self, if_neg (show ¬ (17 : Nat) = 15 by decide), if_neg (show ¬ (17 : Nat) = 16 by decide), if_pos (show (17 : Nat) = 17 from rfl), if_pos (in_k hk (by omega)), cl_I (show k < 2 ^ 31 by omega), starts_k, Option.bind_some, bd_eq, if_pos (show nI 0 = (0 : Int32) by decide), hs1]
  rfl
theorem v11_21 {μ : Mem} {k : Nat} (hk : k < 9) (e : sub PN μ 1 k = nI 2) (x : Int32) : f_X11_voice μ (nI k) (nI 1) x = (f_X2_leans_k2 (VgC μ k) x).bind fun q => f_X11_voice_L141 (put PV (put PV μ (VgC μ k)) q.1) q.2 := by
  have kk : f_X4_kindOf (sub PN μ) (nI k) = some (sub PN μ, 17) := kind_k hk (by omega) e
  have hs1 : sub PV (put PV μ (VgC μ k)) = VgC μ k := sub_putG PV_ap (by decide) (VgC_off μ k)
  unfold f_X11_voice
  rw [(one_1 hk).1, Option.bind_some, if_neg n1, win_1 (by omega), Option.bind_some, if_neg n1, kk, Option.bind_some, bd_eq, put_self, if_neg (show ¬ (17 : Nat) = 15 by decide), if_neg (show ¬ (17 : Nat) = 16 by decide), if_pos (show (17 : Nat) = 17 from rfl), if_pos (in_k hk (by omega)), cl_I (show k < 2 ^ 31 by omega), starts_k, Option.bind_some, bd_eq, if_neg (show ¬ nI 1 = (0 : Int32) by decide), if_pos (show nI 1 = (1 : Int32) by decide), hs1]
  rfl
theorem v11_22 {μ : Mem} {k : Nat} (hk : k < 9) (e : sub PN μ 1 k = nI 2) (x : Int32) : f_X11_voice μ (nI k) (nI 2) x = (f_X7_sways_k2 (VgC μ k) x).bind fun q => f_X11_voice_L141 (put PV (put PV μ (VgC μ k)) q.1) q.2 := by
  have kk : f_X4_kindOf (sub PN μ) (nI k) = some (sub PN μ, 17) := kind_k hk (by omega) e
  have hs1 : sub PV (put PV μ (VgC μ k)) = VgC μ k := sub_putG PV_ap (by decide) (VgC_off μ k)
  unfold f_X11_voice
  rw [(one_1 hk).1, Option.bind_some, if_neg n1, win_1 (by omega), Option.bind_some, if_neg n1, kk, Option.bind_some, bd_eq, put_self, if_neg (show ¬ (17 : Nat) = 15 by decide), if_neg (show ¬ (17 : Nat) = 16 by decide), if_pos (show (17 : Nat) = 17 from rfl), if_pos (in_k hk (by omega)), cl_I (show k < 2 ^ 31 by omega), starts_k, Option.bind_some, bd_eq, if_neg (show ¬ nI 2 = (0 : Int32) by decide), if_neg (show ¬ nI 2 = (1 : Int32) by decide), if_pos (show nI 2 = (2 : Int32) by decide), hs1]
  rfl
theorem v11_23 {μ : Mem} {k : Nat} (hk : k < 9) (e : sub PN μ 1 k = nI 2) (x : Int32) : f_X11_voice μ (nI k) (nI 3) x = (f_X7_parts_k2 (VgC μ k) x).bind fun q => f_X11_voice_L141 (put PV (put PV μ (VgC μ k)) q.1) q.2 := by
  have kk : f_X4_kindOf (sub PN μ) (nI k) = some (sub PN μ, 17) := kind_k hk (by omega) e
  have hs1 : sub PV (put PV μ (VgC μ k)) = VgC μ k := sub_putG PV_ap (by decide) (VgC_off μ k)
  unfold f_X11_voice
  rw [(one_1 hk).1, Option.bind_some, if_neg n1, win_1 (by omega), Option.bind_some, if_neg n1, kk, Option.bind_some, bd_eq, put_self, if_neg (show ¬ (17 : Nat) = 15 by decide), if_neg (show ¬ (17 : Nat) = 16 by decide), if_pos (show (17 : Nat) = 17 from rfl), if_pos (in_k hk (by omega)), cl_I (show k < 2 ^ 31 by omega), starts_k, Option.bind_some, bd_eq, if_neg (show ¬ nI 3 = (0 : Int32) by decide), if_neg (show ¬ nI 3 = (1 : Int32) by decide), if_neg (show ¬ nI 3 = (2 : Int32) by decide), hs1]
  rfl
theorem v11_30 {μ : Mem} {k : Nat} (hk : k < 9) (e : sub PN μ 1 k = nI 3) (x : Int32) : f_X11_voice μ (nI k) (nI 0) x = (f_X7_holds_k3 (VgC μ k) x).bind fun q => f_X11_voice_L141 (put PV (put PV μ (VgC μ k)) q.1) q.2 := by
  have kk : f_X4_kindOf (sub PN μ) (nI k) = some (sub PN μ, 18) := kind_k hk (by omega) e
  have hs1 : sub PV (put PV μ (VgC μ k)) = VgC μ k := sub_putG PV_ap (by decide) (VgC_off μ k)
  unfold f_X11_voice
  rw [(one_1 hk).1, Option.bind_some, if_neg n1, win_1 (by omega), Option.bind_some, if_neg n1, kk, Option.bind_some, bd_eq, put_self, if_neg (show ¬ (18 : Nat) = 15 by decide), if_neg (show ¬ (18 : Nat) = 16 by decide), if_neg (show ¬ (18 : Nat) = 17 by decide), if_pos (show (18 : Nat) = 18 from rfl), if_pos (in_k hk (by omega)), cl_I (show k < 2 ^ 31 by omega), starts_k, Option.bind_some, bd_eq, if_pos (show nI 0 = (0 : Int32) by decide), hs1]
  rfl
theorem v11_31 {μ : Mem} {k : Nat} (hk : k < 9) (e : sub PN μ 1 k = nI 3) (x : Int32) : f_X11_voice μ (nI k) (nI 1) x = (f_X7_leans_k3 (VgC μ k) x).bind fun q => f_X11_voice_L141 (put PV (put PV μ (VgC μ k)) q.1) q.2 := by
  have kk : f_X4_kindOf (sub PN μ) (nI k) = some (sub PN μ, 18) := kind_k hk (by omega) e
  have hs1 : sub PV (put PV μ (VgC μ k)) = VgC μ k := sub_putG PV_ap (by decide) (VgC_off μ k)
  unfold f_X11_voice
  rw [(one_1 hk).1, Option.bind_some, if_neg n1, win_1 (by omega), Option.bind_some, if_neg n1, kk, Option.bind_some, bd_eq, put_self, if_neg (show ¬ (18 : Nat) = 15 by decide), if_neg (show ¬ (18 : Nat) = 16 by decide), if_neg (show ¬ (18 : Nat) = 17 by decide), if_pos (show (18 : Nat) = 18 from rfl), if_pos (in_k hk (by omega)), cl_I (show k < 2 ^ 31 by omega), starts_k, Option.bind_some, bd_eq, if_neg (show ¬ nI 1 = (0 : Int32) by decide), if_pos (show nI 1 = (1 : Int32) by decide), hs1]
  rfl
theorem v11_32 {μ : Mem} {k : Nat} (hk : k < 9) (e : sub PN μ 1 k = nI 3) (x : Int32) : f_X11_voice μ (nI k) (nI 2) x = (f_X8_sways_k3 (VgC μ k) x).bind fun q => f_X11_voice_L141 (put PV (put PV μ (VgC μ k)) q.1) q.2 := by
  have kk : f_X4_kindOf (sub PN μ) (nI k) = some (sub PN μ, 18) := kind_k hk (by omega) e
  have hs1 : sub PV (put PV μ (VgC μ k)) = VgC μ k := sub_putG PV_ap (by decide) (VgC_off μ k)
  unfold f_X11_voice
  rw [(one_1 hk).1, Option.bind_some, if_neg n1, win_1 (by omega), Option.bind_some, if_neg n1, kk, Option.bind_some, bd_eq, put_self, if_neg (show ¬ (18 : Nat) = 15 by decide), if_neg (show ¬ (18 : Nat) = 16 by decide), if_neg (show ¬ (18 : Nat) = 17 by decide), if_pos (show (18 : Nat) = 18 from rfl), if_pos (in_k hk (by omega)), cl_I (show k < 2 ^ 31 by omega), starts_k, Option.bind_some, bd_eq, if_neg (show ¬ nI 2 = (0 : Int32) by decide), if_neg (show ¬ nI 2 = (1 : Int32) by decide), if_pos (show nI 2 = (2 : Int32) by decide), hs1]
  rfl
theorem v11_33 {μ : Mem} {k : Nat} (hk : k < 9) (e : sub PN μ 1 k = nI 3) (x : Int32) : f_X11_voice μ (nI k) (nI 3) x = (f_X7_parts_k3 (VgC μ k) x).bind fun q => f_X11_voice_L141 (put PV (put PV μ (VgC μ k)) q.1) q.2 := by
  have kk : f_X4_kindOf (sub PN μ) (nI k) = some (sub PN μ, 18) := kind_k hk (by omega) e
  have hs1 : sub PV (put PV μ (VgC μ k)) = VgC μ k := sub_putG PV_ap (by decide) (VgC_off μ k)
  unfold f_X11_voice
  rw [(one_1 hk).1, Option.bind_some, if_neg n1, win_1 (by omega), Option.bind_some, if_neg n1, kk, Option.bind_some, bd_eq, put_self, if_neg (show ¬ (18 : Nat) = 15 by decide), if_neg (show ¬ (18 : Nat) = 16 by decide), if_neg (show ¬ (18 : Nat) = 17 by decide), if_pos (show (18 : Nat) = 18 from rfl), if_pos (in_k hk (by omega)), cl_I (show k < 2 ^ 31 by omega), starts_k, Option.bind_some, bd_eq, if_neg (show ¬ nI 3 = (0 : Int32) by decide), if_neg (show ¬ nI 3 = (1 : Int32) by decide), if_neg (show ¬ nI 3 = (2 : Int32) by decide), hs1]
  rfl
theorem v11_40 {μ : Mem} {k : Nat} (hk : k < 9) (e : sub PN μ 1 k = nI 4) (x : Int32) : f_X11_voice μ (nI k) (nI 0) x = (f_X3_holds_k4 (VgC μ k) x).bind fun q => f_X11_voice_L141 (put PV (put PV μ (VgC μ k)) q.1) q.2 := by
  have kk : f_X4_kindOf (sub PN μ) (nI k) = some (sub PN μ, 19) := kind_k hk (by omega) e
  have hs1 : sub PV (put PV μ (VgC μ k)) = VgC μ k := sub_putG PV_ap (by decide) (VgC_off μ k)
  unfold f_X11_voice
  rw [(one_1 hk).1, Option.bind_some, if_neg n1, win_1 (by omega), Option.bind_some, if_neg n1, kk, Option.bind_some, bd_eq, put_self, if_neg (show ¬ (19 : Nat) = 15 by decide), if_neg (show ¬ (19 : Nat) = 16 by decide), if_neg (show ¬ (19 : Nat) = 17 by decide), if_neg (show ¬ (19 : Nat) = 18 by decide), if_pos (show (19 : Nat) = 19 from rfl), if_pos (in_k hk (by omega)), cl_I (show k < 2 ^ 31 by omega), starts_k, Option.bind_some, bd_eq, if_pos (show nI 0 = (0 : Int32) by decide), hs1]
  rfl
theorem v11_41 {μ : Mem} {k : Nat} (hk : k < 9) (e : sub PN μ 1 k = nI 4) (x : Int32) : f_X11_voice μ (nI k) (nI 1) x = (f_X7_leans_k4 (VgC μ k) x).bind fun q => f_X11_voice_L141 (put PV (put PV μ (VgC μ k)) q.1) q.2 := by
  have kk : f_X4_kindOf (sub PN μ) (nI k) = some (sub PN μ, 19) := kind_k hk (by omega) e
  have hs1 : sub PV (put PV μ (VgC μ k)) = VgC μ k := sub_putG PV_ap (by decide) (VgC_off μ k)
  unfold f_X11_voice
  rw [(one_1 hk).1, Option.bind_some, if_neg n1, win_1 (by omega), Option.bind_some, if_neg n1, kk, Option.bind_some, bd_eq, put_self, if_neg (show ¬ (19 : Nat) = 15 by decide), if_neg (show ¬ (19 : Nat) = 16 by decide), if_neg (show ¬ (19 : Nat) = 17 by decide), if_neg (show ¬ (19 : Nat) = 18 by decide), if_pos (show (19 : Nat) = 19 from rfl), if_pos (in_k hk (by omega)), cl_I (show k < 2 ^ 31 by omega), starts_k, Option.bind_some, bd_eq, if_neg (show ¬ nI 1 = (0 : Int32) by decide), if_pos (show nI 1 = (1 : Int32) by decide), hs1]
  rfl
theorem v11_42 {μ : Mem} {k : Nat} (hk : k < 9) (e : sub PN μ 1 k = nI 4) (x : Int32) : f_X11_voice μ (nI k) (nI 2) x = (f_X3_sways_k4 (VgC μ k) x).bind fun q => f_X11_voice_L141 (put PV (put PV μ (VgC μ k)) q.1) q.2 := by
  have kk : f_X4_kindOf (sub PN μ) (nI k) = some (sub PN μ, 19) := kind_k hk (by omega) e
  have hs1 : sub PV (put PV μ (VgC μ k)) = VgC μ k := sub_putG PV_ap (by decide) (VgC_off μ k)
  unfold f_X11_voice
  rw [(one_1 hk).1, Option.bind_some, if_neg n1, win_1 (by omega), Option.bind_some, if_neg n1, kk, Option.bind_some, bd_eq, put_self, if_neg (show ¬ (19 : Nat) = 15 by decide), if_neg (show ¬ (19 : Nat) = 16 by decide), if_neg (show ¬ (19 : Nat) = 17 by decide), if_neg (show ¬ (19 : Nat) = 18 by decide), if_pos (show (19 : Nat) = 19 from rfl), if_pos (in_k hk (by omega)), cl_I (show k < 2 ^ 31 by omega), starts_k, Option.bind_some, bd_eq, if_neg (show ¬ nI 2 = (0 : Int32) by decide), if_neg (show ¬ nI 2 = (1 : Int32) by decide), if_pos (show nI 2 = (2 : Int32) by decide), hs1]
  rfl
theorem v11_43 {μ : Mem} {k : Nat} (hk : k < 9) (e : sub PN μ 1 k = nI 4) (x : Int32) : f_X11_voice μ (nI k) (nI 3) x = (f_X0_parts_k4 (VgC μ k) x).bind fun q => f_X11_voice_L141 (put PV (put PV μ (VgC μ k)) q.1) q.2 := by
  have kk : f_X4_kindOf (sub PN μ) (nI k) = some (sub PN μ, 19) := kind_k hk (by omega) e
  have hs1 : sub PV (put PV μ (VgC μ k)) = VgC μ k := sub_putG PV_ap (by decide) (VgC_off μ k)
  unfold f_X11_voice
  rw [(one_1 hk).1, Option.bind_some, if_neg n1, win_1 (by omega), Option.bind_some, if_neg n1, kk, Option.bind_some, bd_eq, put_self, if_neg (show ¬ (19 : Nat) = 15 by decide), if_neg (show ¬ (19 : Nat) = 16 by decide), if_neg (show ¬ (19 : Nat) = 17 by decide), if_neg (show ¬ (19 : Nat) = 18 by decide), if_pos (show (19 : Nat) = 19 from rfl), if_pos (in_k hk (by omega)), cl_I (show k < 2 ^ 31 by omega), starts_k, Option.bind_some, bd_eq, if_neg (show ¬ nI 3 = (0 : Int32) by decide), if_neg (show ¬ nI 3 = (1 : Int32) by decide), if_neg (show ¬ nI 3 = (2 : Int32) by decide), hs1]
  rfl
theorem v11_50 {μ : Mem} {k : Nat} (hk : k < 9) (e : sub PN μ 1 k = nI 5) (x : Int32) : f_X11_voice μ (nI k) (nI 0) x = (f_X7_holds_k5 (VgC μ k) x).bind fun q => f_X11_voice_L141 (put PV (put PV μ (VgC μ k)) q.1) q.2 := by
  have kk : f_X4_kindOf (sub PN μ) (nI k) = some (sub PN μ, 20) := kind_k hk (by omega) e
  have hs1 : sub PV (put PV μ (VgC μ k)) = VgC μ k := sub_putG PV_ap (by decide) (VgC_off μ k)
  unfold f_X11_voice
  rw [(one_1 hk).1, Option.bind_some, if_neg n1, win_1 (by omega), Option.bind_some, if_neg n1, kk, Option.bind_some, bd_eq, put_self, if_neg (show ¬ (20 : Nat) = 15 by decide), if_neg (show ¬ (20 : Nat) = 16 by decide), if_neg (show ¬ (20 : Nat) = 17 by decide), if_neg (show ¬ (20 : Nat) = 18 by decide), if_neg (show ¬ (20 : Nat) = 19 by decide), if_pos (show (20 : Nat) = 20 from rfl), if_pos (in_k hk (by omega)), cl_I (show k < 2 ^ 31 by omega), starts_k, Option.bind_some, bd_eq, if_pos (show nI 0 = (0 : Int32) by decide), hs1]
  rfl
theorem v11_51 {μ : Mem} {k : Nat} (hk : k < 9) (e : sub PN μ 1 k = nI 5) (x : Int32) : f_X11_voice μ (nI k) (nI 1) x = (f_X10_leans_k5 (VgC μ k) x).bind fun q => f_X11_voice_L141 (put PV (put PV μ (VgC μ k)) q.1) q.2 := by
  have kk : f_X4_kindOf (sub PN μ) (nI k) = some (sub PN μ, 20) := kind_k hk (by omega) e
  have hs1 : sub PV (put PV μ (VgC μ k)) = VgC μ k := sub_putG PV_ap (by decide) (VgC_off μ k)
  unfold f_X11_voice
  rw [(one_1 hk).1, Option.bind_some, if_neg n1, win_1 (by omega), Option.bind_some, if_neg n1, kk, Option.bind_some, bd_eq, put_self, if_neg (show ¬ (20 : Nat) = 15 by decide), if_neg (show ¬ (20 : Nat) = 16 by decide), if_neg (show ¬ (20 : Nat) = 17 by decide), if_neg (show ¬ (20 : Nat) = 18 by decide), if_neg (show ¬ (20 : Nat) = 19 by decide), if_pos (show (20 : Nat) = 20 from rfl), if_pos (in_k hk (by omega)), cl_I (show k < 2 ^ 31 by omega), starts_k, Option.bind_some, bd_eq, if_neg (show ¬ nI 1 = (0 : Int32) by decide), if_pos (show nI 1 = (1 : Int32) by decide), hs1]
  rfl
theorem v11_52 {μ : Mem} {k : Nat} (hk : k < 9) (e : sub PN μ 1 k = nI 5) (x : Int32) : f_X11_voice μ (nI k) (nI 2) x = (f_X7_sways_k5 (VgC μ k) x).bind fun q => f_X11_voice_L141 (put PV (put PV μ (VgC μ k)) q.1) q.2 := by
  have kk : f_X4_kindOf (sub PN μ) (nI k) = some (sub PN μ, 20) := kind_k hk (by omega) e
  have hs1 : sub PV (put PV μ (VgC μ k)) = VgC μ k := sub_putG PV_ap (by decide) (VgC_off μ k)
  unfold f_X11_voice
  rw [(one_1 hk).1, Option.bind_some, if_neg n1, win_1 (by omega), Option.bind_some, if_neg n1, kk, Option.bind_some, bd_eq, put_self, if_neg (show ¬ (20 : Nat) = 15 by decide), if_neg (show ¬ (20 : Nat) = 16 by decide), if_neg (show ¬ (20 : Nat) = 17 by decide), if_neg (show ¬ (20 : Nat) = 18 by decide), if_neg (show ¬ (20 : Nat) = 19 by decide), if_pos (show (20 : Nat) = 20 from rfl), if_pos (in_k hk (by omega)), cl_I (show k < 2 ^ 31 by omega), starts_k, Option.bind_some, bd_eq, if_neg (show ¬ nI 2 = (0 : Int32) by decide), if_neg (show ¬ nI 2 = (1 : Int32) by decide), if_pos (show nI 2 = (2 : Int32) by decide), hs1]
  rfl
theorem v11_53 {μ : Mem} {k : Nat} (hk : k < 9) (e : sub PN μ 1 k = nI 5) (x : Int32) : f_X11_voice μ (nI k) (nI 3) x = (f_X7_parts_k5 (VgC μ k) x).bind fun q => f_X11_voice_L141 (put PV (put PV μ (VgC μ k)) q.1) q.2 := by
  have kk : f_X4_kindOf (sub PN μ) (nI k) = some (sub PN μ, 20) := kind_k hk (by omega) e
  have hs1 : sub PV (put PV μ (VgC μ k)) = VgC μ k := sub_putG PV_ap (by decide) (VgC_off μ k)
  unfold f_X11_voice
  rw [(one_1 hk).1, Option.bind_some, if_neg n1, win_1 (by omega), Option.bind_some, if_neg n1, kk, Option.bind_some, bd_eq, put_self, if_neg (show ¬ (20 : Nat) = 15 by decide), if_neg (show ¬ (20 : Nat) = 16 by decide), if_neg (show ¬ (20 : Nat) = 17 by decide), if_neg (show ¬ (20 : Nat) = 18 by decide), if_neg (show ¬ (20 : Nat) = 19 by decide), if_pos (show (20 : Nat) = 20 from rfl), if_pos (in_k hk (by omega)), cl_I (show k < 2 ^ 31 by omega), starts_k, Option.bind_some, bd_eq, if_neg (show ¬ nI 3 = (0 : Int32) by decide), if_neg (show ¬ nI 3 = (1 : Int32) by decide), if_neg (show ¬ nI 3 = (2 : Int32) by decide), hs1]
  rfl
theorem v11_60 {μ : Mem} {k : Nat} (hk : k < 9) (e : sub PN μ 1 k = nI 6) (x : Int32) : f_X11_voice μ (nI k) (nI 0) x = (f_X9_holds_k6 (VgC μ k) x).bind fun q => f_X11_voice_L141 (put PV (put PV μ (VgC μ k)) q.1) q.2 := by
  have kk : f_X4_kindOf (sub PN μ) (nI k) = some (sub PN μ, 21) := kind_k hk (by omega) e
  have hs1 : sub PV (put PV μ (VgC μ k)) = VgC μ k := sub_putG PV_ap (by decide) (VgC_off μ k)
  unfold f_X11_voice
  rw [(one_1 hk).1, Option.bind_some, if_neg n1, win_1 (by omega), Option.bind_some, if_neg n1, kk, Option.bind_some, bd_eq, put_self, if_neg (show ¬ (21 : Nat) = 15 by decide), if_neg (show ¬ (21 : Nat) = 16 by decide), if_neg (show ¬ (21 : Nat) = 17 by decide), if_neg (show ¬ (21 : Nat) = 18 by decide), if_neg (show ¬ (21 : Nat) = 19 by decide), if_neg (show ¬ (21 : Nat) = 20 by decide), if_pos (show (21 : Nat) = 21 from rfl), if_pos (in_k hk (by omega)), cl_I (show k < 2 ^ 31 by omega), starts_k, Option.bind_some, bd_eq, if_pos (show nI 0 = (0 : Int32) by decide), hs1]
  rfl
theorem v11_61 {μ : Mem} {k : Nat} (hk : k < 9) (e : sub PN μ 1 k = nI 6) (x : Int32) : f_X11_voice μ (nI k) (nI 1) x = (f_X9_leans_k6 (VgC μ k) x).bind fun q => f_X11_voice_L141 (put PV (put PV μ (VgC μ k)) q.1) q.2 := by
  have kk : f_X4_kindOf (sub PN μ) (nI k) = some (sub PN μ, 21) := kind_k hk (by omega) e
  have hs1 : sub PV (put PV μ (VgC μ k)) = VgC μ k := sub_putG PV_ap (by decide) (VgC_off μ k)
  unfold f_X11_voice
  rw [(one_1 hk).1, Option.bind_some, if_neg n1, win_1 (by omega), Option.bind_some, if_neg n1, kk, Option.bind_some, bd_eq, put_self, if_neg (show ¬ (21 : Nat) = 15 by decide), if_neg (show ¬ (21 : Nat) = 16 by decide), if_neg (show ¬ (21 : Nat) = 17 by decide), if_neg (show ¬ (21 : Nat) = 18 by decide), if_neg (show ¬ (21 : Nat) = 19 by decide), if_neg (show ¬ (21 : Nat) = 20 by decide), if_pos (show (21 : Nat) = 21 from rfl), if_pos (in_k hk (by omega)), cl_I (show k < 2 ^ 31 by omega), starts_k, Option.bind_some, bd_eq, if_neg (show ¬ nI 1 = (0 : Int32) by decide), if_pos (show nI 1 = (1 : Int32) by decide), hs1]
  rfl
theorem v11_62 {μ : Mem} {k : Nat} (hk : k < 9) (e : sub PN μ 1 k = nI 6) (x : Int32) : f_X11_voice μ (nI k) (nI 2) x = (f_X7_sways_k6 (VgC μ k) x).bind fun q => f_X11_voice_L141 (put PV (put PV μ (VgC μ k)) q.1) q.2 := by
  have kk : f_X4_kindOf (sub PN μ) (nI k) = some (sub PN μ, 21) := kind_k hk (by omega) e
  have hs1 : sub PV (put PV μ (VgC μ k)) = VgC μ k := sub_putG PV_ap (by decide) (VgC_off μ k)
  unfold f_X11_voice
  rw [(one_1 hk).1, Option.bind_some, if_neg n1, win_1 (by omega), Option.bind_some, if_neg n1, kk, Option.bind_some, bd_eq, put_self, if_neg (show ¬ (21 : Nat) = 15 by decide), if_neg (show ¬ (21 : Nat) = 16 by decide), if_neg (show ¬ (21 : Nat) = 17 by decide), if_neg (show ¬ (21 : Nat) = 18 by decide), if_neg (show ¬ (21 : Nat) = 19 by decide), if_neg (show ¬ (21 : Nat) = 20 by decide), if_pos (show (21 : Nat) = 21 from rfl), if_pos (in_k hk (by omega)), cl_I (show k < 2 ^ 31 by omega), starts_k, Option.bind_some, bd_eq, if_neg (show ¬ nI 2 = (0 : Int32) by decide), if_neg (show ¬ nI 2 = (1 : Int32) by decide), if_pos (show nI 2 = (2 : Int32) by decide), hs1]
  rfl
theorem v11_63 {μ : Mem} {k : Nat} (hk : k < 9) (e : sub PN μ 1 k = nI 6) (x : Int32) : f_X11_voice μ (nI k) (nI 3) x = (f_X7_parts_k6 (VgC μ k) x).bind fun q => f_X11_voice_L141 (put PV (put PV μ (VgC μ k)) q.1) q.2 := by
  have kk : f_X4_kindOf (sub PN μ) (nI k) = some (sub PN μ, 21) := kind_k hk (by omega) e
  have hs1 : sub PV (put PV μ (VgC μ k)) = VgC μ k := sub_putG PV_ap (by decide) (VgC_off μ k)
  unfold f_X11_voice
  rw [(one_1 hk).1, Option.bind_some, if_neg n1, win_1 (by omega), Option.bind_some, if_neg n1, kk, Option.bind_some, bd_eq, put_self, if_neg (show ¬ (21 : Nat) = 15 by decide), if_neg (show ¬ (21 : Nat) = 16 by decide), if_neg (show ¬ (21 : Nat) = 17 by decide), if_neg (show ¬ (21 : Nat) = 18 by decide), if_neg (show ¬ (21 : Nat) = 19 by decide), if_neg (show ¬ (21 : Nat) = 20 by decide), if_pos (show (21 : Nat) = 21 from rfl), if_pos (in_k hk (by omega)), cl_I (show k < 2 ^ 31 by omega), starts_k, Option.bind_some, bd_eq, if_neg (show ¬ nI 3 = (0 : Int32) by decide), if_neg (show ¬ nI 3 = (1 : Int32) by decide), if_neg (show ¬ nI 3 = (2 : Int32) by decide), hs1]
  rfl
theorem voice_op {μ ν : Mem} (h : Rel μ ν) (x y w : Int32) : Sim RA (f_X11_voice μ x y w) (f_X12_voice ν x y w) := by
  have E1 : Sim RA ((f_X11_fails μ (1 : Int32)).bind fun q => some (q.1, q.2)) ((f_X12_error ν (1 : Int32)).bind fun q => some (q.1, q.2)) := h.err (c := 1) (by omega)
  rcases one_cases x with ⟨e1, -, e3⟩ | ⟨e1, -, e3, k, hk, rfl⟩
  · unfold f_X11_voice f_X12_voice
    rw [e1, e3, Option.bind_some, Option.bind_some, if_pos rfl, if_pos rfl]
    exact E1
  · rcases in_lh y (l := 0) (n := 3) (by omega) (by omega) with e | ⟨e, c, -, c3, rfl⟩
    · unfold f_X11_voice f_X12_voice
      rw [e1, e3, Option.bind_some, Option.bind_some, if_neg n1, if_neg n1, in_same, show f_X11_within y (0 : Int32) (3 : Int32) = _ from e, Option.bind_some, Option.bind_some, if_pos rfl, if_pos rfl]
      exact E1
    · obtain ⟨⟨q, hq, r⟩, z⟩ := id h.nr
      obtain ⟨K, hK, eK⟩ := r.kb k hk
      have kd : ν 1 (8 + 5 * k + 0) = nI K := (r.kd k hk).symm.trans eK
      have v : VS k K 0 (VgC μ k) (VgR ν k) (VgC μ k) (VgR ν k) := VS_0 hk hK kd (r.mm k hk)
      have hc : c = 0 ∨ c = 1 ∨ c = 2 ∨ c = 3 := by omega
      have hKK : K = 0 ∨ K = 1 ∨ K = 2 ∨ K = 3 ∨ K = 4 ∨ K = 5 ∨ K = 6 := by omega
      rcases hc with a | a | a | a <;> subst a <;> rcases hKK with a | a | a | a | a | a | a <;> subst a
      · rw [v11_00 hk eK, v12_0 hk kd]; exact run_v (r := fun ν x => f_X12_holdsAs ν (nI 0) x) h vh_0.p v
      · rw [v11_10 hk eK, v12_0 hk kd]; exact run_v (r := fun ν x => f_X12_holdsAs ν (nI 1) x) h vh_1.p v
      · rw [v11_20 hk eK, v12_0 hk kd]; exact run_v (r := fun ν x => f_X12_holdsAs ν (nI 2) x) h vh_2.p v
      · rw [v11_30 hk eK, v12_0 hk kd]; exact run_v (r := fun ν x => f_X12_holdsAs ν (nI 3) x) h vh_3.p v
      · rw [v11_40 hk eK, v12_0 hk kd]; exact run_v (r := fun ν x => f_X12_holdsAs ν (nI 4) x) h vh_4.p v
      · rw [v11_50 hk eK, v12_0 hk kd]; exact run_v (r := fun ν x => f_X12_holdsAs ν (nI 5) x) h vh_5.p v
      · rw [v11_60 hk eK, v12_0 hk kd]; exact run_v (r := fun ν x => f_X12_holdsAs ν (nI 6) x) h vh_6.p v
      · rw [v11_01 hk eK, v12_1 hk kd]; exact run_v (r := fun ν x => f_X12_leansAs ν (nI 0) x) h vl_0.p v
      · rw [v11_11 hk eK, v12_1 hk kd]; exact run_v (r := fun ν x => f_X12_leansAs ν (nI 1) x) h vl_1.p v
      · rw [v11_21 hk eK, v12_1 hk kd]; exact run_v (r := fun ν x => f_X12_leansAs ν (nI 2) x) h vl_2.p v
      · rw [v11_31 hk eK, v12_1 hk kd]; exact run_v (r := fun ν x => f_X12_leansAs ν (nI 3) x) h vl_3.p v
      · rw [v11_41 hk eK, v12_1 hk kd]; exact run_v (r := fun ν x => f_X12_leansAs ν (nI 4) x) h vl_4.p v
      · rw [v11_51 hk eK, v12_1 hk kd]; exact run_v (r := fun ν x => f_X12_leansAs ν (nI 5) x) h vl_5.p v
      · rw [v11_61 hk eK, v12_1 hk kd]; exact run_v (r := fun ν x => f_X12_leansAs ν (nI 6) x) h vl_6.p v
      · rw [v11_02 hk eK, v12_2 hk kd]; exact run_v (r := fun ν x => f_X12_swaysAs ν (nI 0) x) h vw_0.p v
      · rw [v11_12 hk eK, v12_2 hk kd]; exact run_v (r := fun ν x => f_X12_swaysAs ν (nI 1) x) h vw_1.p v
      · rw [v11_22 hk eK, v12_2 hk kd]; exact run_v (r := fun ν x => f_X12_swaysAs ν (nI 2) x) h vw_2.p v
      · rw [v11_32 hk eK, v12_2 hk kd]; exact run_v (r := fun ν x => f_X12_swaysAs ν (nI 3) x) h vw_3.p v
      · rw [v11_42 hk eK, v12_2 hk kd]; exact run_v (r := fun ν x => f_X12_swaysAs ν (nI 4) x) h vw_4.p v
      · rw [v11_52 hk eK, v12_2 hk kd]; exact run_v (r := fun ν x => f_X12_swaysAs ν (nI 5) x) h vw_5.p v
      · rw [v11_62 hk eK, v12_2 hk kd]; exact run_v (r := fun ν x => f_X12_swaysAs ν (nI 6) x) h vw_6.p v
      · rw [v11_03 hk eK, v12_3 hk kd]; exact run_v (r := fun ν x => f_X12_partsAs ν (nI 0) x) h vq_0 v
      · rw [v11_13 hk eK, v12_3 hk kd]; exact run_v (r := fun ν x => f_X12_partsAs ν (nI 1) x) h vq_1 v
      · rw [v11_23 hk eK, v12_3 hk kd]; exact run_v (r := fun ν x => f_X12_partsAs ν (nI 2) x) h vq_2 v
      · rw [v11_33 hk eK, v12_3 hk kd]; exact run_v (r := fun ν x => f_X12_partsAs ν (nI 3) x) h vq_3 v
      · rw [v11_43 hk eK, v12_3 hk kd]; exact run_v (r := fun ν x => f_X12_partsAs ν (nI 4) x) h vq_4 v
      · rw [v11_53 hk eK, v12_3 hk kd]; exact run_v (r := fun ν x => f_X12_partsAs ν (nI 5) x) h vq_5 v
      · rw [v11_63 hk eK, v12_3 hk kd]; exact run_v (r := fun ν x => f_X12_partsAs ν (nI 6) x) h vq_6 v
