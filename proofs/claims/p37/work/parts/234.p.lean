theorem ush8 (x : Int32) : ∃ j, j < 2 ^ 24 ∧ iushr x (8 : Int32) = nI j := by
  refine ⟨x.toUInt32.toNat / 256, by have := x.toUInt32.toNat_lt; omega, ?_⟩
  unfold iushr
  have e1 : ((8 : Int32).toUInt32 &&& Int32.toUInt32 31) = 8 := by decide
  have e2 : x.toUInt32 >>> 8 = UInt32.ofNat (x.toUInt32.toNat / 256) := by
    apply UInt32.toNat_inj.1
    have := x.toUInt32.toNat_lt
    rw [UInt32.toNat_shiftRight, UInt32.toNat_ofNat', Nat.shiftRight_eq_div_pow]
    show x.toUInt32.toNat / 256 = _
    omega
  rw [e1, e2]
  rfl
def byt (x : Int64) (s : Nat) : BitVec 8 := (x.toBitVec >>> s).setWidth 8
theorem m255 : ∀ i, i < 32 → (255#32).getLsbD i = decide (i < 8) := by decide
theorem byt_a (x : Int64) {s : Nat} {y : UInt64} (hy : y = UInt64.ofNat s) (hs : s < 64) : ((x.toUInt64 >>> y).toInt64.toInt32).toInt8 = Int8.ofBitVec (byt x s) := by
  subst hy
  rw [← Int8.toBitVec_inj]
  apply BitVec.eq_of_getLsbD_eq
  intro i hi
  unfold byt
  simp [BitVec.getLsbD_signExtend, BitVec.getLsbD_setWidth, BitVec.getLsbD_ushiftRight, hi, BitVec.getElem_signExtend, Nat.mod_eq_of_lt hs, show i < 64 by omega]
theorem byt_b (x : Int64) {s : Nat} {y : Int64} (hy : y = Int64.ofNat s) (e : ((BitVec.ofNat 64 s).smod 64#64).toNat = s) (hs : s ≤ 56) : ((x >>> y) &&& (255 : Int64)).toInt32 = Int32.ofBitVec ((byt x s).setWidth 32) := by
  subst hy
  rw [← Int32.toBitVec_inj]
  apply BitVec.eq_of_getLsbD_eq
  intro i hi
  unfold byt
  have m := m255 i hi
  simp [BitVec.getLsbD_signExtend, BitVec.getLsbD_setWidth, BitVec.getLsbD_ushiftRight, hi, BitVec.getElem_signExtend, show i < 64 by omega, e]
  rw [BitVec.getLsbD_eq_getElem hi] at m
  rw [m]
  by_cases h : i < 8
  · simp [h, BitVec.getElem_sshiftRight]
    rw [dif_pos (show s + i < 64 by omega), BitVec.getLsbD_eq_getElem]
  · simp [h]
theorem sh_a : ∀ b, b < 8 → (((8 : Int32) * nI b).toInt64.toUInt64 &&& Int64.toUInt64 63) = UInt64.ofNat (8 * b) := by decide +kernel
theorem sh_b : ∀ b, b < 8 → (((8 : Int32) * nI b).toInt64 &&& 63) = Int64.ofNat (8 * b) ∧ ((BitVec.ofNat 64 (8 * b)).smod 64#64).toNat = 8 * b := by decide +kernel
theorem byt_dec : ∀ v, v < 256 → Int32.ofBitVec ((BitVec.ofNat 8 v).setWidth 32) = nI v ∧ vp_nar .byte (Int8.ofBitVec (BitVec.ofNat 8 v)).toInt32 = (if v < 128 then nI v else nI v - 256) := by decide +kernel
theorem byte_ok (x : Int64) {b : Nat} (hb : b < 8) : ∃ v, v < 256 ∧ ((lshr x ((8 : Int32) * nI b)) &&& (255 : Int64)).toInt32 = nI v ∧
    vp_nar .byte (((lushr x ((8 : Int32) * nI b)).toInt32).toInt8.toInt32) = (if v < 128 then nI v else nI v - 256) := by
  refine ⟨(byt x (8 * b)).toNat, (byt x (8 * b)).isLt, ?_, ?_⟩
  · unfold lshr
    rw [byt_b x (sh_b b hb).1 (sh_b b hb).2 (by omega)]
    have := (byt_dec (byt x (8 * b)).toNat (byt x (8 * b)).isLt).1
    rw [BitVec.ofNat_toNat, BitVec.setWidth_eq] at this
    exact this
  · unfold lushr
    rw [byt_a x (sh_a b hb) (by omega)]
    have := (byt_dec (byt x (8 * b)).toNat (byt x (8 * b)).isLt).2
    rw [BitVec.ofNat_toNat, BitVec.setWidth_eq] at this
    exact this
theorem LR.fr {u : Nat} (hu : u < 2) {lam lam' ν ν' : Mem} (h : LR u lam ν) (h0 : lam' 0 3 = lam 0 3) (h2 : lam' 2 = lam 2) (h1 : ∀ i, 53 ≤ i → i < 303 → ν' 1 i = ν 1 i) : LR u lam' ν' := by
  obtain ⟨n, a, b, c, dep, d, e⟩ := h
  refine ⟨n, a, h0.trans b, (h1 _ (by omega) (by omega)).trans c, dep, d, fun j hj => ?_⟩
  rw [h2, h1 _ (by omega) (by omega), h1 _ (by omega) (by omega)]
  exact e j hj
/-- what of the reference's row a row of the class knows -/
theorem RR.nu {q : Nat} {ρ ν ν' : Mem} (h : RR q ρ ν) (hn : ∀ i, (i < 2 ∨ (8 ≤ i ∧ i < 303)) → ν' 1 i = ν 1 i) : RR q ρ ν' := by
  refine ⟨?_, ?_, ?_, ?_, ?_, ?_, h.mi, ?_, h.kb, h.mb, h.pb, h.pp, h.lb, h.ob, h.sb, ?_, ?_⟩
  · intro k hk; rw [hn _ (by omega)]; exact h.kd k hk
  · intro k hk; rw [hn _ (by omega)]; exact h.mm k hk
  · intro k hk; rw [hn _ (by omega)]; exact h.po k hk
  · intro k hk; rw [hn _ (by omega)]; exact h.le k hk
  · intro k hk; rw [hn _ (by omega)]; exact h.ou k hk
  · rw [hn _ (by omega)]; exact h.sun
  · rw [hn _ (by omega)]; exact h.mj
  · exact h.w0.fr (by omega) rfl rfl (fun i h1 h2 => hn i (by omega))
  · exact h.w1.fr (by omega) rfl rfl (fun i h1 h2 => hn i (by omega))
theorem NR.nu {μ μ' ν ν' : Mem} (h : NR μ ν) (a : sub PN μ' = sub PN μ) (hn : ∀ i, (i < 2 ∨ (8 ≤ i ∧ i < 303)) → ν' 1 i = ν 1 i) : NR μ' ν' := by
  obtain ⟨⟨q, hq, r⟩, z⟩ := h
  unfold NR
  rw [a]
  exact ⟨⟨q, hq, r.nu hn⟩, z⟩
/-- a change beside the row: the scene's numbers, its tape, its waiting ones -/
theorem Rel.beside {μ ν μ' ν' : Mem} (h : Rel μ ν) (o : Off [1, 2, 3] μ μ') (o' : Off [1] ν ν') (hn : ∀ i, (i < 2 ∨ (8 ≤ i ∧ i < 303)) → ν' 1 i = ν 1 i)
    (e : Extra (μ' 1) (μ' 2) (μ' 3) (ν' 1)) : Rel μ' ν' := by
  refine h.keep (h.nr.nu ?_ hn) e (o 0 (by decide)) (by rw [o' 0 (by decide)]) (fun c hc => o c ?_) (fun c hc => o' c ?_) (by rw [o' 0 (by decide)]) (by rw [o 7 (by decide)]) (by rw [o 11 (by decide)])
  · funext j
    show μ' (PN.getD j 0) = μ (PN.getD j 0)
    refine o _ ?_
    by_cases hj : j < 22
    · have : ∀ j, j < 22 → PN.getD j 0 ∉ [1, 2, 3] := by decide
      exact this j hj
    · rw [PN_big (by omega)]; decide
  · have : ∀ c, c ∈ [4, 5, 6, 29, 30, 31, 32, 33, 34, 15, 17, 19, 21, 78, 79, 80, 81, 82, 83, 74] → c ∉ [1, 2, 3] := by decide
    exact this c hc
  · have : ∀ c, c ∈ [2, 10, 11, 12] → c ∉ [1] := by decide
    exact this c hc
theorem feed_step {μ ν : Mem} (h : Rel μ ν) {n : Nat} (hn : n < 60) (e5 : μ 1 5 = nI n) (e2 : ν 1 2 = nI n) {t s : Int32} (hv : ∃ v, v < 256 ∧ s = nI v ∧ t = if v < 128 then nI v else nI v - 256) :
    Rel (upA (upA μ 2 (upd (μ 2) n t)) 1 (upd (μ 1) 5 (nI (n + 1)))) (upA ν 1 (upd (upd (ν 1) (303 + n) s) 2 (nI (n + 1)))) := by
  obtain ⟨-, ⟨b, b1, b2, b3⟩, c, d, e⟩ := h.ex
  refine h.beside (μ' := upA (upA μ 2 (upd (μ 2) n t)) 1 (upd (μ 1) 5 (nI (n + 1)))) ((Off.upA (by decide)).trans (Off.upA (by decide))) (Off.upA (by decide)) ?_ ?_
  · intro i hi
    rw [upA_s, upd_o _ _ (by omega), upd_o _ _ (by omega)]
  · rw [upA_s, upA_s, upA_o _ _ (show (2 : Nat) ≠ 1 by decide), upA_s, upA_o _ _ (show (3 : Nat) ≠ 1 by decide), upA_o _ _ (show (3 : Nat) ≠ 2 by decide)]
    refine ⟨⟨n + 1, by omega, upd_s _ _ _, upd_s _ _ _⟩, ⟨b, b1, ?_, ?_⟩, ?_, ?_, ?_⟩
    · rw [upd_o _ _ (by decide)]; exact b2
    · rw [upd_o _ _ (by decide), upd_o _ _ (by omega)]; exact b3
    · rw [upd_o _ _ (by decide), upd_o _ _ (by decide), upd_o _ _ (by omega)]; exact c
    · intro j hj
      rw [upd_o _ _ (show 303 + j ≠ 2 by omega)]
      by_cases hjn : j = n
      · subst hjn; rw [upd_s, upd_s]; exact hv
      · rw [upd_o _ _ (show 303 + j ≠ 303 + n by omega), upd_o _ _ hjn]; exact d j hj
    · intro j hj
      rw [upd_o _ _ (show 363 + j ≠ 2 by omega), upd_o _ _ (show 363 + j ≠ 303 + n by omega)]; exact e j hj
theorem i2 : inb (2 : Int32) 387 = true := by decide
theorem i3 : inb (3 : Int32) 387 = true := by decide
theorem i4 : inb (4 : Int32) 387 = true := by decide
theorem i0 : inb (0 : Int32) 387 = true := by decide
theorem c2 : (2 : Int32).toNatClampNeg = 2 := by decide
theorem c3 : (3 : Int32).toNatClampNeg = 3 := by decide
theorem c4 : (4 : Int32).toNatClampNeg = 4 := by decide
theorem c0 : (0 : Int32).toNatClampNeg = 0 := by decide
theorem feed_L (x : Int64) {m : Nat} (hm : m ≤ 8) : ∀ (r b : Nat) (μ ν : Mem) (n f f' : Nat), b + r = m → r < f → r < f' → n + r ≤ 60 → Rel μ ν → μ 1 5 = nI n → ν 1 2 = nI n →
    Sim RA (f_X11_feed_L39 f μ x (nI m) (nI b)) (f_X12_feed_L38 f' ν x (nI m) (nI b)) := by
  intro r
  induction r with
  | zero =>
    intro b μ ν n f f' hb hf hf' hn h e5 e2
    obtain ⟨f, rfl⟩ : ∃ f1, f = f1 + 1 := ⟨f - 1, by omega⟩
    obtain ⟨f', rfl⟩ : ∃ f1, f' = f1 + 1 := ⟨f' - 1, by omega⟩
    have e : nI m ≤ nI b := by rw [nI_leI (by omega) (by omega)]; omega
    rw [f_X11_feed_L39, f_X12_feed_L38, if_pos e, if_pos e, if_pos i2, c2, e5, e2]
    exact Sim.pure ⟨rfl, h⟩
  | succ r ih =>
    intro b μ ν n f f' hb hf hf' hn h e5 e2
    obtain ⟨f, rfl⟩ : ∃ f1, f = f1 + 1 := ⟨f - 1, by omega⟩
    obtain ⟨f', rfl⟩ : ∃ f1, f' = f1 + 1 := ⟨f' - 1, by omega⟩
    have e : ¬ nI m ≤ nI b := by rw [nI_leI (by omega) (by omega)]; omega
    have k1 : inb (nI n) 60 = true := in_k (by omega) (by omega)
    have k2 : (303 : Int32) + nI n = nI (303 + n) := nI_add 303 n
    have k3 : inb (nI (303 + n)) 387 = true := in_k (by omega) (by omega)
    rw [f_X11_feed_L39, f_X12_feed_L38, if_neg e, if_neg e, e5, if_pos k1]
    simp only [i2, if_true, c2]
    rw [e2, k2, if_pos k3, cl_I (by omega), cl_I (by omega), show nI b + (1 : Int32) = nI (b + 1) from nI_1 b]
    simp only [bd]
    rw [upA_o _ _ (show (1 : Nat) ≠ 2 by decide), e5, upA_s, upd_o _ _ (show 2 ≠ 303 + n by omega), e2, nI_1, upA_2]
    have st := feed_step h (n := n) (by omega) e5 e2 (byte_ok x (b := b) (by omega) |> fun ⟨v, v1, v2, v3⟩ => ⟨v, v1, v2, v3⟩)
    exact ih (b + 1) _ _ (n + 1) f f' (by omega) (by omega) (by omega) (by omega) st (by rw [upA_s, upd_s]) (by rw [upA_s, upd_s])
theorem feed_op {μ ν : Mem} (h : Rel μ ν) (x : Int64) (y : Int32) : Sim RA (f_X11_feed μ x y) (f_X12_feed ν x y) := by
  unfold f_X11_feed f_X12_feed
  rw [in_same]
  rcases in_lh y (l := 1) (n := 8) (by omega) (by omega) with e | ⟨e, m, m1, m2, rfl⟩
  · rw [show f_X11_within y (1 : Int32) (8 : Int32) = _ from e]
    exact h.err (c := 1) (by omega)
  · rw [show f_X11_within (nI m) (1 : Int32) (8 : Int32) = _ from e]
    obtain ⟨⟨n, n6, e5, e2⟩, -, -, -, -⟩ := h.ex
    simp only [Option.bind_some, i2, if_true, c2]
    rw [if_neg n1, if_neg n1, e5, e2, nI_add, show (60 : Int32) = nI 60 from rfl, nI_subI (by omega)]
    by_cases hle : n + m ≤ 60
    · rw [if_pos (by rw [nI_leI (by omega) (by omega)]; omega), if_pos (by rw [nI_leI (by omega) (by omega)]; omega), show (0 : Int32) = nI 0 from rfl]
      exact feed_L x m2 m 0 μ ν n fuel0 fuel0 (by omega) (fuel_ge m (by omega)) (fuel_ge m (by omega)) (by omega) h e5 e2
    · rw [if_neg (by rw [nI_leI (by omega) (by omega)]; omega), if_neg (by rw [nI_leI (by omega) (by omega)]; omega)]
      exact h.err (c := 4) (by omega)
theorem seed_op {μ ν : Mem} (h : Rel μ ν) (x : Int32) : Sim RA (f_X11_seed μ x) (f_X12_seed ν x) := by
  obtain ⟨⟨a, a1, a2, a3⟩, ⟨b, b1, b2, b3⟩, c, d, e⟩ := h.ex
  unfold f_X11_seed f_X12_seed f_X12_change1
  simp only [i4, if_true, c4, bd, Option.bind_some]
  refine Sim.pure ⟨c, ?_⟩
  show Rel (upA μ 1 (upd (μ 1) 7 x)) (upA ν 1 (upd (ν 1) 4 x))
  refine h.beside (Off.upA (by decide)) (Off.upA (by decide)) (fun i hi => by rw [upA_s, upd_o _ _ (by omega)]) ?_
  rw [upA_s, upA_s, upA_o _ _ (show (2 : Nat) ≠ 1 by decide), upA_o _ _ (show (3 : Nat) ≠ 1 by decide)]
  refine ⟨⟨a, a1, ?_, ?_⟩, ⟨b, b1, ?_, ?_⟩, ?_, ?_, ?_⟩
  · rw [upd_o _ _ (by decide)]; exact a2
  · rw [upd_o _ _ (by decide)]; exact a3
  · rw [upd_o _ _ (by decide)]; exact b2
  · rw [upd_o _ _ (by decide)]; exact b3
  · rw [upd_s, upd_s]
  · intro j hj; rw [upd_o _ _ (by omega)]; exact d j hj
  · intro j hj; rw [upd_o _ _ (by omega)]; exact e j hj
theorem tell_op {μ ν : Mem} (h : Rel μ ν) (x : Int32) : Sim RA (f_X11_tell μ x) (f_X12_tell ν x) := by
  obtain ⟨⟨a, a1, a2, a3⟩, ⟨b, b1, b2, b3⟩, c, d, e⟩ := h.ex
  unfold f_X11_tell f_X12_tell
  simp only [i3, if_true, c3, bd]
  rw [b2, b3]
  by_cases hb : b = 24
  · subst hb
    rw [if_neg (by decide), if_pos (by decide)]
    exact h.err (c := 4) (by omega)
  · rw [if_pos (by rw [show (24 : Int32) = nI 24 from rfl, nI_ltI (by omega) (by omega)]; omega), if_pos (in_k (show b < 24 by omega) (by omega)), if_neg (by rw [show (24 : Int32) = nI 24 from rfl, nI_inj (by omega) (by omega)]; omega), show (363 : Int32) + nI b = nI (363 + b) from nI_add 363 b, if_pos (in_k (show 363 + b < 387 by omega) (by omega)), cl_I (by omega), cl_I (by omega)]
    simp only [upA_s, upd_s]
    rw [upA_o _ _ (show (1 : Nat) ≠ 3 by decide), b2, upd_o _ _ (show 3 ≠ 363 + b by omega), b3, nI_1, upA_2]
    refine Sim.pure ⟨rfl, ?_⟩
    show Rel (upA (upA μ 3 (upd (μ 3) b x)) 1 (upd (μ 1) 6 (nI (b + 1)))) (upA ν 1 (upd (upd (ν 1) (363 + b) x) 3 (nI (b + 1))))
    refine h.beside ((Off.upA (P := [1, 2, 3]) (by decide)).trans (Off.upA (by decide))) (Off.upA (by decide)) (fun i hi => by rw [upA_s, upd_o _ _ (by omega), upd_o _ _ (by omega)]) ?_
    rw [upA_s, upA_s, upA_o _ _ (show (2 : Nat) ≠ 1 by decide), upA_o _ _ (show (2 : Nat) ≠ 3 by decide), upA_o _ _ (show (3 : Nat) ≠ 1 by decide), upA_s]
    refine ⟨⟨a, a1, ?_, ?_⟩, ⟨b + 1, by omega, upd_s _ _ _, upd_s _ _ _⟩, ?_, ?_, ?_⟩
    · rw [upd_o _ _ (by decide)]; exact a2
    · rw [upd_o _ _ (by decide), upd_o _ _ (by omega)]; exact a3
    · rw [upd_o _ _ (by decide), upd_o _ _ (by omega), upd_o _ _ (by omega)]; exact c
    · intro j hj; rw [upd_o _ _ (by omega), upd_o _ _ (by omega)]; exact d j hj
    · intro j hj
      rw [upd_o _ _ (show 363 + j ≠ 3 by omega)]
      by_cases hjb : j = b
      · subst hjb; rw [upd_s, upd_s]
      · rw [upd_o _ _ hjb, upd_o _ _ (by omega)]; exact e j hj
