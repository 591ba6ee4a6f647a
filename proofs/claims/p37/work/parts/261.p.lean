/-- the speaker's places, and what of voices both know -/
abbrev PV : List Nat := [74, 75, 76, 67, 68, 69, 70, 71, 72, 73]
theorem PV_ap : Apart PV 10 := by decide
abbrev VS (k K : Nat) (p : Int32) (σ0 ν0 σ ν : Mem) : Prop :=
  (σ 0 0 = nI k) ∧ (σ 0 1 = ν0 1 (8 + 5 * k + 1)) ∧ (σ 0 2 = p) ∧ (ν 0 16 = p) ∧ (∃ n, n ≤ 30 ∧ σ 0 6 = nI n) ∧ (∃ n, n ≤ 30 ∧ ν 0 14 = nI n) ∧ (ν 0 15 = nI k) ∧
  (k < 9 ∧ K < 7 ∧ ν0 1 (8 + 5 * k + 0) = nI K) ∧ Off [0, 2] σ0 σ ∧ Off [0, 9] ν0 ν ∧ (σ 0 3 = σ0 0 3) ∧ (ν 0 3 = ν0 0 3)
abbrev VA (k K : Nat) (p : Int32) (σ0 ν0 : Mem) (a b : Mem × Int32) : Prop := a.2 = b.2 ∧ VS k K p σ0 ν0 a.1 b.1
abbrev BK (k K : Nat) (σ0 ν0 : Mem) (c r : Mem → Int32 → Option (Mem × Int32)) : Prop := ∀ σ ν x, VS k K 0 σ0 ν0 σ ν → Sim (VA k K 0 σ0 ν0) (c σ x) (r ν x)
theorem begC {σ : Mem} {n : Nat} (hn : n ≤ 30) (e : σ 0 6 = nI n) (c : Int32) : ∃ σ', f_X6_begins σ c = some σ' ∧ (∀ i, i ≠ 6 → σ' 0 i = σ 0 i) ∧ (∃ m, m ≤ 30 ∧ σ' 0 6 = nI m) ∧ Off [0, 2] σ σ' := by
  unfold f_X6_begins
  rw [e]
  by_cases h : n = 30
  · subst h
    rw [if_pos (by decide)]
    exact ⟨σ, rfl, fun _ _ => rfl, ⟨30, by omega, e⟩, Off.refl _ _⟩
  · rw [if_neg (by rw [show (30 : Int32) = nI 30 from rfl, nI_leI (by omega) (by omega)]; omega), if_pos (in_k (show n < 30 by omega) (by omega))]
    simp only [bd]
    refine ⟨_, rfl, fun i hi => ?_, ⟨n + 1, by omega, ?_⟩, (Off.upA (by decide)).trans (Off.upA (by decide))⟩
    · rw [upA_s, upd_o _ _ hi, upA_o _ _ (show (0 : Nat) ≠ 2 by decide)]
    · rw [upA_s, upd_s, upA_o _ _ (show (0 : Nat) ≠ 2 by decide), e, nI_1]
theorem begR {ν : Mem} {n : Nat} (hn : n ≤ 30) (e : ν 0 14 = nI n) (c : Int32) : ∃ ν', f_X12_begins ν c = some ν' ∧ (∀ i, i ≠ 14 → ν' 0 i = ν 0 i) ∧ (∃ m, m ≤ 30 ∧ ν' 0 14 = nI m) ∧ Off [0, 9] ν ν' := by
  unfold f_X12_begins
  rw [e]
  by_cases h : n = 30
  · subst h
    rw [if_pos (by decide)]
    exact ⟨ν, rfl, fun _ _ => rfl, ⟨30, by omega, e⟩, Off.refl _ _⟩
  · rw [if_neg (by rw [show (30 : Int32) = nI 30 from rfl, nI_leI (by omega) (by omega)]; omega), if_pos (in_k (show n < 30 by omega) (by omega))]
    simp only [bd]
    refine ⟨_, rfl, fun i hi => ?_, ⟨n + 1, by omega, ?_⟩, (Off.upA (by decide)).trans (Off.upA (by decide))⟩
    · rw [upA_s, upd_o _ _ hi, upA_o _ _ (show (0 : Nat) ≠ 9 by decide)]
    · rw [upA_s, upd_s, upA_o _ _ (show (0 : Nat) ≠ 9 by decide), e, nI_1]
theorem vs_begin {k K : Nat} {p : Int32} {σ0 ν0 σ ν : Mem} (h : VS k K p σ0 ν0 σ ν) (c : Int32) : Sim (VS k K p σ0 ν0) (f_X6_begins σ c) (f_X12_begins ν c) := by
  obtain ⟨h0, h1, h2, h3, ⟨n, n3, h4⟩, ⟨m, m3, h5⟩, h6, h7, h8, h9, h10, h11⟩ := h
  obtain ⟨σ', a1, a2, a3, a4⟩ := begC n3 h4 c
  obtain ⟨ν', b1, b2, b3, b4⟩ := begR m3 h5 c
  refine ⟨σ', ν', a1, b1, ?_, ?_, ?_, ?_, a3, b3, ?_, h7, h8.trans a4, h9.trans b4, ?_, ?_⟩
  · rw [a2 0 (by decide)]; exact h0
  · rw [a2 1 (by decide)]; exact h1
  · rw [a2 2 (by decide)]; exact h2
  · rw [b2 16 (by decide)]; exact h3
  · rw [b2 15 (by decide)]; exact h6
  · rw [a2 3 (by decide)]; exact h10
  · rw [b2 3 (by decide)]; exact h11
theorem kind_now {k K : Nat} {p : Int32} {σ0 ν0 σ ν : Mem} (h : VS k K p σ0 ν0 σ ν) : f_X12_kindNow ν = some (ν, nI K) := by
  obtain ⟨h0, h1, h2, h3, h4, h5, h6, ⟨hk, hK, h7⟩, h8, h9, h10⟩ := h
  unfold f_X12_kindNow
  rw [h6, show (0 : Int32) = nI 0 from rfl, its_k ν 0 hk (by omega), Option.bind_some, h9 1 (by decide), h7]
theorem m_now {k K : Nat} {p : Int32} {σ0 ν0 σ ν : Mem} (h : VS k K p σ0 ν0 σ ν) : f_X12_mNow ν = some (ν, σ 0 1) := by
  obtain ⟨h0, h1, h2, h3, h4, h5, h6, ⟨hk, hK, h7⟩, h8, h9, h10⟩ := h
  unfold f_X12_mNow
  rw [h6, show (1 : Int32) = nI 1 from rfl, its_k ν 1 hk (by omega), Option.bind_some, h9 1 (by decide), h1]
theorem bk_step {k K : Nat} {σ0 ν0 : Mem} {c r : Mem → Int32 → Option (Mem × Int32)} (h : BK k K σ0 ν0 c r) (n : Int32) (t : Int32 → Int32) (g g' : Mem → Int32 → Option (Mem × Int32))
    (hg : ∀ σ ν y, VS k K 0 σ0 ν0 σ ν → Sim (VA k K 0 σ0 ν0) (g σ y) (g' ν y)) {σ ν : Mem} (v : VS k K 0 σ0 ν0 σ ν) (x : Int32) :
    Sim (VA k K 0 σ0 ν0) ((f_X6_begins σ n).bind fun q1 => (c q1 (t x)).bind fun q2 => g q2.1 q2.2) ((f_X12_begins ν n).bind fun q1 => (r q1 (t x)).bind fun q2 => g' q2.1 q2.2) := by
  refine (vs_begin v n).bind ?_
  intro a b v1
  refine (h a b (t x) v1).bind ?_
  rintro ⟨a, y⟩ ⟨b, w⟩ ⟨e, v2⟩
  obtain rfl : y = w := e
  exact hg _ _ y v2
theorem bk_some {k K : Nat} {σ0 ν0 : Mem} (t : Int32 → Int32) : ∀ σ ν y, VS k K 0 σ0 ν0 σ ν → Sim (VA k K 0 σ0 ν0) (some (σ, t y)) (some (ν, t y)) := fun _ _ _ v => Sim.pure ⟨rfl, v⟩
theorem bid {α β : Type} (x : Option (α × β)) : (x.bind fun q => some (q.1, q.2)) = x := by
  cases x <;> rfl
theorem ab1 : f_X12_above (1 : Int32) = some (0 : Int32) := by decide
theorem ab2 : f_X12_above (2 : Int32) = some (0 : Int32) := by decide
theorem ab3 : f_X12_above (3 : Int32) = some (0 : Int32) := by decide
theorem ab4 : f_X12_above (4 : Int32) = some (1 : Int32) := by decide
theorem ab5 : f_X12_above (5 : Int32) = some (2 : Int32) := by decide
theorem ab6 : f_X12_above (6 : Int32) = some (0 : Int32) := by decide
theorem mh0 (d : Nat) (ν : Mem) (x : Int32) : rec_Mh (d + 1) ν (0 : Int32) x = (f_X12_begins ν 10).bind fun q1 => some (q1, x + q1 0 15) := by
  show f_X12_holdsAs_b (rec_Mh d) ν (0 : Int32) x = _
  unfold f_X12_holdsAs_b
  rw [if_pos rfl]
theorem mh1 (d : Nat) (ν : Mem) (x : Int32) : rec_Mh (d + 1) ν (1 : Int32) x = (f_X12_begins ν 20).bind fun q1 => (rec_Mh d q1 (0 : Int32) x).bind fun q2 => some (q2.1, q2.2 - (4 : Int32)) := by
  show f_X12_holdsAs_b (rec_Mh d) ν (1 : Int32) x = _
  unfold f_X12_holdsAs_b
  rw [if_neg (by decide), if_pos rfl]
  simp only [ab1, Option.bind_some]
theorem mh4 (d : Nat) (ν : Mem) (x : Int32) : rec_Mh (d + 1) ν (4 : Int32) x = (f_X12_begins ν 50).bind fun q1 => (rec_Mh d q1 (1 : Int32) x).bind fun q2 => some (q2.1, q2.2 * (3 : Int32)) := by
  show f_X12_holdsAs_b (rec_Mh d) ν (4 : Int32) x = _
  unfold f_X12_holdsAs_b
  rw [if_neg (by decide), if_neg (by decide), if_pos rfl]
  simp only [ab4, Option.bind_some]
theorem mh6 (d : Nat) (ν : Mem) (x : Int32) : rec_Mh (d + 1) ν (6 : Int32) x = (f_X12_begins ν 70).bind fun q1 => some (q1, (9 : Int32)) := by
  show f_X12_holdsAs_b (rec_Mh d) ν (6 : Int32) x = _
  unfold f_X12_holdsAs_b
  rw [if_neg (by decide), if_neg (by decide), if_neg (by decide), if_pos rfl]
theorem mh2 (d : Nat) (ν : Mem) (x : Int32) : rec_Mh (d + 1) ν (2 : Int32) x = rec_Mh d ν (0 : Int32) x := by
  show f_X12_holdsAs_b (rec_Mh d) ν (2 : Int32) x = _
  unfold f_X12_holdsAs_b
  rw [if_neg (by decide), if_neg (by decide), if_neg (by decide), if_neg (by decide)]
  rw [ab2, Option.bind_some, bid]
theorem mh3 (d : Nat) (ν : Mem) (x : Int32) : rec_Mh (d + 1) ν (3 : Int32) x = rec_Mh d ν (0 : Int32) x := by
  show f_X12_holdsAs_b (rec_Mh d) ν (3 : Int32) x = _
  unfold f_X12_holdsAs_b
  rw [if_neg (by decide), if_neg (by decide), if_neg (by decide), if_neg (by decide)]
  rw [ab3, Option.bind_some, bid]
theorem mh5 (d : Nat) (ν : Mem) (x : Int32) : rec_Mh (d + 1) ν (5 : Int32) x = rec_Mh d ν (2 : Int32) x := by
  show f_X12_holdsAs_b (rec_Mh d) ν (5 : Int32) x = _
  unfold f_X12_holdsAs_b
  rw [if_neg (by decide), if_neg (by decide), if_neg (by decide), if_neg (by decide)]
  rw [ab5, Option.bind_some, bid]
theorem ml0 (d : Nat) (ν : Mem) (x : Int32) : rec_Ml (d + 1) ν (0 : Int32) x = (f_X12_begins ν 11).bind fun q1 => (f_X12_kindNow q1).bind fun q2 => (f_X12_holdsAs q2.1 q2.2 x).bind fun q3 => some (q3.1, q3.2 * (2 : Int32)) := by
  show f_X12_leansAs_b (rec_Ml d) ν (0 : Int32) x = _
  unfold f_X12_leansAs_b
  rw [if_pos rfl]
theorem ml2 (d : Nat) (ν : Mem) (x : Int32) : rec_Ml (d + 1) ν (2 : Int32) x = (f_X12_begins ν 30).bind fun q1 => (rec_Ml d q1 (0 : Int32) x).bind fun q2 => some (q2.1, (0 : Int32) - q2.2) := by
  show f_X12_leansAs_b (rec_Ml d) ν (2 : Int32) x = _
  unfold f_X12_leansAs_b
  rw [if_neg (by decide), if_pos rfl]
  simp only [ab2, Option.bind_some]
theorem ml5 (d : Nat) (ν : Mem) (x : Int32) : rec_Ml (d + 1) ν (5 : Int32) x = (f_X12_begins ν 60).bind fun q1 => (rec_Ml d q1 (2 : Int32) (x + (1 : Int32))).bind fun q2 => some (q2.1, q2.2) := by
  show f_X12_leansAs_b (rec_Ml d) ν (5 : Int32) x = _
  unfold f_X12_leansAs_b
  rw [if_neg (by decide), if_neg (by decide), if_pos rfl]
  simp only [ab5, Option.bind_some]
theorem ml6 (d : Nat) (ν : Mem) (x : Int32) : rec_Ml (d + 1) ν (6 : Int32) x = (f_X12_begins ν 71).bind fun q1 => (rec_Ml d q1 (0 : Int32) x).bind fun q2 => (f_X12_mNow q2.1).bind fun q3 => some (q3.1, q2.2 + q3.2) := by
  show f_X12_leansAs_b (rec_Ml d) ν (6 : Int32) x = _
  unfold f_X12_leansAs_b
  rw [if_neg (by decide), if_neg (by decide), if_neg (by decide), if_pos rfl]
  simp only [ab6, Option.bind_some]
theorem ml1 (d : Nat) (ν : Mem) (x : Int32) : rec_Ml (d + 1) ν (1 : Int32) x = rec_Ml d ν (0 : Int32) x := by
  show f_X12_leansAs_b (rec_Ml d) ν (1 : Int32) x = _
  unfold f_X12_leansAs_b
  rw [if_neg (by decide), if_neg (by decide), if_neg (by decide), if_neg (by decide)]
  rw [ab1, Option.bind_some, bid]
theorem ml3 (d : Nat) (ν : Mem) (x : Int32) : rec_Ml (d + 1) ν (3 : Int32) x = rec_Ml d ν (0 : Int32) x := by
  show f_X12_leansAs_b (rec_Ml d) ν (3 : Int32) x = _
  unfold f_X12_leansAs_b
  rw [if_neg (by decide), if_neg (by decide), if_neg (by decide), if_neg (by decide)]
  rw [ab3, Option.bind_some, bid]
theorem ml4 (d : Nat) (ν : Mem) (x : Int32) : rec_Ml (d + 1) ν (4 : Int32) x = rec_Ml d ν (1 : Int32) x := by
  show f_X12_leansAs_b (rec_Ml d) ν (4 : Int32) x = _
  unfold f_X12_leansAs_b
  rw [if_neg (by decide), if_neg (by decide), if_neg (by decide), if_neg (by decide)]
  rw [ab4, Option.bind_some, bid]
theorem ms0 (d : Nat) (ν : Mem) (x : Int32) : rec_Ms (d + 1) ν (0 : Int32) x = (f_X12_begins ν 12).bind fun q1 => (f_X12_kindNow q1).bind fun q2 => (f_X12_leansAs q2.1 q2.2 x).bind fun q3 => (f_X12_mNow q3.1).bind fun q4 => some (q4.1, q3.2 - q4.2) := by
  show f_X12_swaysAs_b (rec_Ms d) ν (0 : Int32) x = _
  unfold f_X12_swaysAs_b
  rw [if_pos rfl]
theorem ms3 (d : Nat) (ν : Mem) (x : Int32) : rec_Ms (d + 1) ν (3 : Int32) x = (f_X12_begins ν 40).bind fun q1 => (rec_Ms d q1 (0 : Int32) (x / (2 : Int32))).bind fun q2 => some (q2.1, q2.2) := by
  show f_X12_swaysAs_b (rec_Ms d) ν (3 : Int32) x = _
  unfold f_X12_swaysAs_b
  rw [if_neg (by decide), if_pos rfl]
  simp only [ab3, Option.bind_some]
theorem ms4 (d : Nat) (ν : Mem) (x : Int32) : rec_Ms (d + 1) ν (4 : Int32) x = (f_X12_begins ν 51).bind fun q1 => (rec_Ms d q1 (1 : Int32) x).bind fun q2 => some (q2.1, q2.2 ^^^ (q2.1 0 15)) := by
  show f_X12_swaysAs_b (rec_Ms d) ν (4 : Int32) x = _
  unfold f_X12_swaysAs_b
  rw [if_neg (by decide), if_neg (by decide), if_pos rfl]
  simp only [ab4, Option.bind_some]
theorem ms1 (d : Nat) (ν : Mem) (x : Int32) : rec_Ms (d + 1) ν (1 : Int32) x = rec_Ms d ν (0 : Int32) x := by
  show f_X12_swaysAs_b (rec_Ms d) ν (1 : Int32) x = _
  unfold f_X12_swaysAs_b
  rw [if_neg (by decide), if_neg (by decide), if_neg (by decide)]
  rw [ab1, Option.bind_some, bid]
theorem ms2 (d : Nat) (ν : Mem) (x : Int32) : rec_Ms (d + 1) ν (2 : Int32) x = rec_Ms d ν (0 : Int32) x := by
  show f_X12_swaysAs_b (rec_Ms d) ν (2 : Int32) x = _
  unfold f_X12_swaysAs_b
  rw [if_neg (by decide), if_neg (by decide), if_neg (by decide)]
  rw [ab2, Option.bind_some, bid]
theorem ms5 (d : Nat) (ν : Mem) (x : Int32) : rec_Ms (d + 1) ν (5 : Int32) x = rec_Ms d ν (2 : Int32) x := by
  show f_X12_swaysAs_b (rec_Ms d) ν (5 : Int32) x = _
  unfold f_X12_swaysAs_b
  rw [if_neg (by decide), if_neg (by decide), if_neg (by decide)]
  rw [ab5, Option.bind_some, bid]
theorem ms6 (d : Nat) (ν : Mem) (x : Int32) : rec_Ms (d + 1) ν (6 : Int32) x = rec_Ms d ν (0 : Int32) x := by
  show f_X12_swaysAs_b (rec_Ms d) ν (6 : Int32) x = _
  unfold f_X12_swaysAs_b
  rw [if_neg (by decide), if_neg (by decide), if_neg (by decide)]
  rw [ab6, Option.bind_some, bid]
theorem mp1 (d : Nat) (ν : Mem) (x : Int32) : rec_Mp (d + 1) ν (1 : Int32) x = (f_X12_begins ν 21).bind fun q1 => (rec_Mp d q1 (0 : Int32) x).bind fun q2 => (if q2.1 0 16 = 0 then (f_X12_kindNow q2.1).bind fun q3 => (f_X12_leansAs q3.1 q3.2 (1 : Int32)).bind fun q4 => some (q4.1, q2.2 + q4.2) else some (q2.1, (0 : Int32))) := by
  show f_X12_partsAs_b (rec_Mp d) ν (1 : Int32) x = _
  unfold f_X12_partsAs_b
  rw [if_neg (by decide), if_pos rfl]
  simp only [ab1, Option.bind_some]
theorem mp2 (d : Nat) (ν : Mem) (x : Int32) : rec_Mp (d + 1) ν (2 : Int32) x = rec_Mp d ν (0 : Int32) x := by
  show f_X12_partsAs_b (rec_Mp d) ν (2 : Int32) x = _
  unfold f_X12_partsAs_b
  rw [if_neg (by decide), if_neg (by decide)]
  rw [ab2, Option.bind_some, bid]
theorem mp3 (d : Nat) (ν : Mem) (x : Int32) : rec_Mp (d + 1) ν (3 : Int32) x = rec_Mp d ν (0 : Int32) x := by
  show f_X12_partsAs_b (rec_Mp d) ν (3 : Int32) x = _
  unfold f_X12_partsAs_b
  rw [if_neg (by decide), if_neg (by decide)]
  rw [ab3, Option.bind_some, bid]
theorem mp4 (d : Nat) (ν : Mem) (x : Int32) : rec_Mp (d + 1) ν (4 : Int32) x = rec_Mp d ν (1 : Int32) x := by
  show f_X12_partsAs_b (rec_Mp d) ν (4 : Int32) x = _
  unfold f_X12_partsAs_b
  rw [if_neg (by decide), if_neg (by decide)]
  rw [ab4, Option.bind_some, bid]
theorem mp5 (d : Nat) (ν : Mem) (x : Int32) : rec_Mp (d + 1) ν (5 : Int32) x = rec_Mp d ν (2 : Int32) x := by
  show f_X12_partsAs_b (rec_Mp d) ν (5 : Int32) x = _
  unfold f_X12_partsAs_b
  rw [if_neg (by decide), if_neg (by decide)]
  rw [ab5, Option.bind_some, bid]
theorem mp6 (d : Nat) (ν : Mem) (x : Int32) : rec_Mp (d + 1) ν (6 : Int32) x = rec_Mp d ν (0 : Int32) x := by
  show f_X12_partsAs_b (rec_Mp d) ν (6 : Int32) x = _
  unfold f_X12_partsAs_b
  rw [if_neg (by decide), if_neg (by decide)]
  rw [ab6, Option.bind_some, bid]
theorem holds0 {k K : Nat} {σ0 ν0 : Mem} (d : Nat) : BK k K σ0 ν0 (fun σ x => (f_X6_begins σ (10 : Int32)).bind fun q1 => some (q1, x + q1 0 0)) (fun ν x => rec_Mh (d + 1) ν (0 : Int32) x) := by
  intro σ ν x v
  show Sim _ _ (rec_Mh (d + 1) ν (0 : Int32) x)
  rw [mh0]
  refine (vs_begin v 10).bind ?_
  intro a b v1
  refine Sim.pure ⟨?_, v1⟩
  show x + a 0 0 = x + b 0 15
  rw [v1.1, v1.2.2.2.2.2.2.1]
theorem leans0 {k K : Nat} {σ0 ν0 : Mem} {c : Mem → Int32 → Option (Mem × Int32)} (h : BK k K σ0 ν0 c (fun ν x => f_X12_holdsAs ν (nI K) x)) (d : Nat) :
    BK k K σ0 ν0 (fun σ x => (f_X6_begins σ (11 : Int32)).bind fun q1 => (c q1 x).bind fun q2 => some (q2.1, q2.2 * (2 : Int32))) (fun ν x => rec_Ml (d + 1) ν (0 : Int32) x) := by
  intro σ ν x v
  show Sim _ _ (rec_Ml (d + 1) ν (0 : Int32) x)
  rw [ml0]
  refine (vs_begin v 11).bind ?_
  intro a b v1
  rw [kind_now v1, Option.bind_some]
  refine (h a b x v1).bind ?_
  rintro ⟨a, y⟩ ⟨b, w⟩ ⟨e, v2⟩
  obtain rfl : y = w := e
  exact Sim.pure ⟨rfl, v2⟩
theorem sways0 {k K : Nat} {σ0 ν0 : Mem} {c : Mem → Int32 → Option (Mem × Int32)} (h : BK k K σ0 ν0 c (fun ν x => f_X12_leansAs ν (nI K) x)) (d : Nat) :
    BK k K σ0 ν0 (fun σ x => (f_X6_begins σ (12 : Int32)).bind fun q1 => (c q1 x).bind fun q2 => some (q2.1, q2.2 - q2.1 0 1)) (fun ν x => rec_Ms (d + 1) ν (0 : Int32) x) := by
  intro σ ν x v
  show Sim _ _ (rec_Ms (d + 1) ν (0 : Int32) x)
  rw [ms0]
  refine (vs_begin v 12).bind ?_
  intro a b v1
  rw [kind_now v1, Option.bind_some]
  refine (h a b x v1).bind ?_
  rintro ⟨a, y⟩ ⟨b, w⟩ ⟨e, v2⟩
  obtain rfl : y = w := e
  show Sim _ _ ((f_X12_mNow b).bind fun q4 => some (q4.1, y - q4.2))
  rw [m_now v2]
  exact Sim.pure ⟨rfl, v2⟩
abbrev VP (k K : Nat) (σ0 ν0 : Mem) (a b : Mem × Int32) : Prop := a.2 = b.2 ∧ ∃ p, VS k K p σ0 ν0 a.1 b.1
abbrev BP (k K : Nat) (σ0 ν0 : Mem) (c r : Mem → Int32 → Option (Mem × Int32)) : Prop := ∀ σ ν x, VS k K 0 σ0 ν0 σ ν → Sim (VP k K σ0 ν0) (c σ x) (r ν x)
theorem BK.p {k K : Nat} {σ0 ν0 : Mem} {c r : Mem → Int32 → Option (Mem × Int32)} (h : BK k K σ0 ν0 c r) : BP k K σ0 ν0 c r := fun σ ν x v => (h σ ν x v).mono fun _ _ e => ⟨e.1, 0, e.2⟩
theorem VS.part {k K : Nat} {p t : Int32} {σ0 ν0 σ ν : Mem} (h : VS k K p σ0 ν0 σ ν) : VS k K t σ0 ν0 (upA σ 0 (upd (σ 0) 2 t)) (upA ν 0 (upd (ν 0) 16 t)) := by
  obtain ⟨h0, h1, h2, h3, ⟨n, n3, h4⟩, ⟨m, m3, h5⟩, h6, h7, h8, h9, h10, h11⟩ := h
  refine ⟨?_, ?_, ?_, ?_, ⟨n, n3, ?_⟩, ⟨m, m3, ?_⟩, ?_, h7, h8.trans (Off.upA (by decide)), h9.trans (Off.upA (by decide)), ?_, ?_⟩
  · rw [upA_s, upd_o _ _ (by decide)]; exact h0
  · rw [upA_s, upd_o _ _ (by decide)]; exact h1
  · rw [upA_s, upd_s]
  · rw [upA_s, upd_s]
  · rw [upA_s, upd_o _ _ (by decide)]; exact h4
  · rw [upA_s, upd_o _ _ (by decide)]; exact h5
  · rw [upA_s, upd_o _ _ (by decide)]; exact h6
  · rw [upA_s, upd_o _ _ (by decide)]; exact h10
  · rw [upA_s, upd_o _ _ (by decide)]; exact h11
theorem VS.part0 {k K : Nat} {σ0 ν0 σ ν : Mem} (h : VS k K 0 σ0 ν0 σ ν) : VS k K 0 σ0 ν0 σ (upA ν 0 (upd (ν 0) 16 0)) := by
  obtain ⟨h0, h1, h2, h3, h4, ⟨m, m3, h5⟩, h6, h7, h8, h9, h10, h11⟩ := h
  refine ⟨h0, h1, h2, ?_, h4, ⟨m, m3, ?_⟩, ?_, h7, h8, h9.trans (Off.upA (by decide)), h10, ?_⟩
  · rw [upA_s, upd_s]
  · rw [upA_s, upd_o _ _ (by decide)]; exact h5
  · rw [upA_s, upd_o _ _ (by decide)]; exact h6
  · rw [upA_s, upd_o _ _ (by decide)]; exact h11
theorem mp0 (d : Nat) (ν : Mem) (x : Int32) : rec_Mp (d + 1) ν (0 : Int32) x = (f_X12_begins ν 13).bind fun q1 => (f_X12_mNow q1).bind fun q2 =>
    (if q2.2 - q2.1 0 15 = 0 then f_X12_partsAs_L54 (rec_Mp d) q2.1 x (q2.2 - q2.1 0 15) (1 : Int32) else f_X12_partsAs_L54 (rec_Mp d) q2.1 x (q2.2 - q2.1 0 15) (0 : Int32)) := by
  show f_X12_partsAs_b (rec_Mp d) ν (0 : Int32) x = _
  unfold f_X12_partsAs_b
  rw [if_pos rfl]
  rfl
theorem parts0 {k K : Nat} {σ0 ν0 : Mem} (d : Nat) : BP k K σ0 ν0 (fun σ x => (f_X6_begins σ (13 : Int32)).bind fun q1 => (if q1 0 1 - q1 0 0 = 0 then some (upA q1 0 (upd (q1 0) 2 (1 : Int32)), (0 : Int32)) else (if ¬ q1 0 1 - q1 0 0 = 0 then some (q1, x / (q1 0 1 - q1 0 0)) else none)))
    (fun ν x => rec_Mp (d + 1) ν (0 : Int32) x) := by
  intro σ ν x v
  show Sim _ _ (rec_Mp (d + 1) ν (0 : Int32) x)
  rw [mp0]
  refine (vs_begin v 13).bind ?_
  intro a b v1
  rw [m_now v1, Option.bind_some]
  have e0 : a 0 0 = b 0 15 := by rw [v1.1, v1.2.2.2.2.2.2.1]
  show Sim _ _ (if a 0 1 - b 0 15 = 0 then f_X12_partsAs_L54 (rec_Mp d) b x (a 0 1 - b 0 15) (1 : Int32) else f_X12_partsAs_L54 (rec_Mp d) b x (a 0 1 - b 0 15) (0 : Int32))
  rw [← e0]
  generalize a 0 1 - a 0 0 = y
  unfold f_X12_partsAs_L54
  by_cases h : y = 0
  · rw [if_pos h, if_pos h, if_pos (Or.inr rfl), bd_eq, if_pos h]
    exact Sim.pure ⟨rfl, 1, v1.part⟩
  · rw [if_neg h, if_neg h, if_pos h, if_pos (Or.inl rfl), bd_eq, if_neg h]
    by_cases h1 : y = -1
    · rw [if_pos h1, h1, i32_divm1]
      exact Sim.pure ⟨rfl, 0, v1.part0⟩
    · rw [if_neg h1, if_pos h]
      exact Sim.pure ⟨rfl, 0, v1.part0⟩
theorem parts1 {k K : Nat} {σ0 ν0 : Mem} {c l : Mem → Int32 → Option (Mem × Int32)} {d : Nat} (h : BP k K σ0 ν0 c (fun ν x => rec_Mp d ν (0 : Int32) x)) (hl : BK k K σ0 ν0 l (fun ν x => f_X12_leansAs ν (nI K) x)) :
    BP k K σ0 ν0 (fun σ x => (f_X6_begins σ (21 : Int32)).bind fun q1 => (c q1 x).bind fun q2 => (if q2.1 0 2 = 0 then (l q2.1 (1 : Int32)).bind fun q3 => some (q3.1, q2.2 + q3.2) else some (q2.1, (0 : Int32))))
      (fun ν x => rec_Mp (d + 1) ν (1 : Int32) x) := by
  intro σ ν x v
  show Sim _ _ (rec_Mp (d + 1) ν (1 : Int32) x)
  rw [mp1]
  refine (vs_begin v 21).bind ?_
  intro a b v1
  refine (h a b x v1).bind ?_
  rintro ⟨a, y⟩ ⟨b, w⟩ ⟨e, p, v2⟩
  obtain rfl : y = w := e
  have ea : a 0 2 = p := v2.2.2.1
  have eb : b 0 16 = p := v2.2.2.2.1
  show Sim _ (if a 0 2 = 0 then (l a (1 : Int32)).bind fun q3 => some (q3.1, y + q3.2) else some (a, (0 : Int32))) (if b 0 16 = 0 then (f_X12_kindNow b).bind fun q3 => (f_X12_leansAs q3.1 q3.2 (1 : Int32)).bind fun q4 => some (q4.1, y + q4.2) else some (b, (0 : Int32)))
  rw [ea, eb]
  by_cases hp : p = 0
  · subst hp
    rw [if_pos rfl, if_pos rfl, kind_now v2, Option.bind_some]
    refine (hl a b 1 v2).bind ?_
    rintro ⟨a, z⟩ ⟨b, w⟩ ⟨e, v3⟩
    obtain rfl : z = w := e
    exact Sim.pure ⟨rfl, 0, v3⟩
  · rw [if_neg hp, if_neg hp]
    exact Sim.pure ⟨rfl, p, v2⟩
