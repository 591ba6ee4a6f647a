def INV (i : Nat) (μ ν : Mem) : Prop := Rel μ ν
theorem inv0 : INV 0 mu0 nu_27 := Rel_new
theorem inv_skip {L i : Nat} {μ ν : Mem} (hI : INV i μ ν) (hi : i + 6 ≤ L) : INV (i + 6) μ ν := hI
theorem okL_stander {L i : Nat} {μ ν : Mem} (hL : L ≤ 3072) (hI : INV i μ ν) (hi : i + 6 ≤ L) (a0 : Int32) (a1 : Int32) : ∃ (μ1 ν1 : Mem) (r1 r2 : Int32), f_X11_stander μ a0 a1 = some (μ1, r1) ∧ f_X12_stander ν a0 a1 = some (ν1, r2) ∧ INV (i + 6) μ1 ν1 := by
  obtain ⟨⟨a, x⟩, ⟨b, y⟩, e1, e2, h1, h2⟩ := hI.sim (stander_op hI.nr a0 a1)
  exact ⟨a, b, x, y, e1, e2, h2⟩
theorem okL_standerIs {L i : Nat} {μ ν : Mem} (hL : L ≤ 3072) (hI : INV i μ ν) (hi : i + 6 ≤ L) (a0 : Int32) (a1 : Int32) : ∃ (μ1 ν1 : Mem) (r1 r2 : Int32), f_X11_standerIs μ a0 a1 = some (μ1, r1) ∧ f_X12_standerIs ν a0 a1 = some (ν1, r2) ∧ INV (i + 6) μ1 ν1 := by
  obtain ⟨⟨a, x⟩, ⟨b, y⟩, e1, e2, h1, h2⟩ := hI.sim (standerIs_op hI.nr a0 a1)
  exact ⟨a, b, x, y, e1, e2, h2⟩
theorem okL_as {L i : Nat} {μ ν : Mem} (hL : L ≤ 3072) (hI : INV i μ ν) (hi : i + 6 ≤ L) (a0 : Int32) (a1 : Int32) : ∃ (μ1 ν1 : Mem) (r1 r2 : Int32), f_X11_as μ a0 a1 = some (μ1, r1) ∧ f_X12_as ν a0 a1 = some (ν1, r2) ∧ INV (i + 6) μ1 ν1 := by
  obtain ⟨⟨a, x⟩, ⟨b, y⟩, e1, e2, h1, h2⟩ := hI.sim (as_op hI.nr a0 a1)
  exact ⟨a, b, x, y, e1, e2, h2⟩
theorem okL_patience {L i : Nat} {μ ν : Mem} (hL : L ≤ 3072) (hI : INV i μ ν) (hi : i + 6 ≤ L) (a0 : Int32) (a1 : Int32) : ∃ (μ1 ν1 : Mem) (r1 r2 : Int32), f_X11_patience μ a0 a1 = some (μ1, r1) ∧ f_X12_patience ν a0 a1 = some (ν1, r2) ∧ INV (i + 6) μ1 ν1 := by
  obtain ⟨⟨a, x⟩, ⟨b, y⟩, e1, e2, h1, h2⟩ := hI.sim (patience_op hI.nr a0 a1)
  exact ⟨a, b, x, y, e1, e2, h2⟩
theorem okL_swap {L i : Nat} {μ ν : Mem} (hL : L ≤ 3072) (hI : INV i μ ν) (hi : i + 6 ≤ L) (a0 : Int32) (a1 : Int32) : ∃ (μ1 ν1 : Mem) (r1 r2 : Int32), f_X11_swap μ a0 a1 = some (μ1, r1) ∧ f_X12_swap ν a0 a1 = some (ν1, r2) ∧ INV (i + 6) μ1 ν1 := by
  obtain ⟨⟨a, x⟩, ⟨b, y⟩, e1, e2, h1, h2⟩ := hI.sim (swap_op hI.nr a0 a1)
  exact ⟨a, b, x, y, e1, e2, h2⟩
theorem okL_again {L i : Nat} {μ ν : Mem} (hL : L ≤ 3072) (hI : INV i μ ν) (hi : i + 6 ≤ L) (a0 : Int32) (a1 : Int32) : ∃ (μ1 ν1 : Mem) (r1 r2 : Int32), f_X11_again μ a0 a1 = some (μ1, r1) ∧ f_X12_again ν a0 a1 = some (ν1, r2) ∧ INV (i + 6) μ1 ν1 := by
  obtain ⟨⟨a, x⟩, ⟨b, y⟩, e1, e2, h1, h2⟩ := hI.sim (again_op hI.nr a0 a1)
  exact ⟨a, b, x, y, e1, e2, h2⟩
theorem okL_sun {L i : Nat} {μ ν : Mem} (hL : L ≤ 3072) (hI : INV i μ ν) (hi : i + 6 ≤ L) (a0 : Int32) : ∃ (μ1 ν1 : Mem) (r1 r2 : Int32), f_X11_sun μ a0 = some (μ1, r1) ∧ f_X12_sun ν a0 = some (ν1, r2) ∧ INV (i + 6) μ1 ν1 := by
  obtain ⟨⟨a, x⟩, ⟨b, y⟩, e1, e2, h1, h2⟩ := hI.sim (sun_op hI.nr a0)
  exact ⟨a, b, x, y, e1, e2, h2⟩
theorem okL_at {L i : Nat} {μ ν : Mem} (hL : L ≤ 3072) (hI : INV i μ ν) (hi : i + 6 ≤ L) (a0 : Int32) : ∃ (μ1 ν1 : Mem) (r1 r2 : Int32), f_X11_at μ a0 = some (μ1, r1) ∧ f_X12_at ν a0 = some (ν1, r2) ∧ INV (i + 6) μ1 ν1 := by
  obtain ⟨⟨a, x⟩, ⟨b, y⟩, e1, e2, h1, h2⟩ := hI.sim (at_op hI.nr a0)
  exact ⟨a, b, x, y, e1, e2, h2⟩
theorem okL_feed {L i : Nat} {μ ν : Mem} (hL : L ≤ 3072) (hI : INV i μ ν) (hi : i + 6 ≤ L) (a0 : Int64) (a1 : Int32) : ∃ (μ1 ν1 : Mem) (r1 r2 : Int32), f_X11_feed μ a0 a1 = some (μ1, r1) ∧ f_X12_feed ν a0 a1 = some (ν1, r2) ∧ INV (i + 6) μ1 ν1 := by
  obtain ⟨⟨a, x⟩, ⟨b, y⟩, e1, e2, h1, h2⟩ := feed_op hI a0 a1
  exact ⟨a, b, x, y, e1, e2, h2⟩
theorem okL_text {L i : Nat} {μ ν : Mem} (hL : L ≤ 3072) (hI : INV i μ ν) (hi : i + 6 ≤ L) (a0 : Int32) : ∃ (μ1 ν1 : Mem) (r1 r2 : Int32) (k1 : Nat), f_X11_text μ a0 = some (μ1, r1, k1) ∧ f_X12_text ν a0 = some (ν1, r2) ∧ INV (i + 6) μ1 ν1 := by
  obtain ⟨⟨a, x, k⟩, ⟨b, y⟩, e1, e2, h1, h2⟩ := text_op hI a0
  exact ⟨a, b, x, y, k, e1, e2, h2⟩
theorem okL_untell {L i : Nat} {μ ν : Mem} (hL : L ≤ 3072) (hI : INV i μ ν) (hi : i + 6 ≤ L) (a0 : Int32) : ∃ (μ1 ν1 : Mem) (r1 r2 : Int32), f_X11_untell μ a0 = some (μ1, r1) ∧ f_X12_untell ν a0 = some (ν1, r2) ∧ INV (i + 6) μ1 ν1 := by
  obtain ⟨⟨a, x⟩, ⟨b, y⟩, e1, e2, h1, h2⟩ := untell_op hI a0
  exact ⟨a, b, x, y, e1, e2, h2⟩
theorem okL_minutes {L i : Nat} {μ ν : Mem} (hL : L ≤ 3072) (hI : INV i μ ν) (hi : i + 6 ≤ L) (a0 : Int32) : ∃ (μ1 ν1 : Mem) (r1 r2 : Int32), f_X11_minutes μ a0 = some (μ1, r1) ∧ f_X12_minutes ν a0 = some (ν1, r2) ∧ INV (i + 6) μ1 ν1 := by
  obtain ⟨⟨a, x⟩, ⟨b, y⟩, e1, e2, h1, h2⟩ := hI.sim (minutes_op hI.nr a0)
  exact ⟨a, b, x, y, e1, e2, h2⟩
theorem okL_fly {L i : Nat} {μ ν : Mem} (hL : L ≤ 3072) (hI : INV i μ ν) (hi : i + 6 ≤ L) (a0 : Int32) : ∃ (μ1 ν1 : Mem) (r1 r2 : Int32), f_X11_fly μ a0 = some (μ1, r1) ∧ f_X12_fly ν a0 = some (ν1, r2) ∧ INV (i + 6) μ1 ν1 := by
  obtain ⟨⟨a, x⟩, ⟨b, y⟩, e1, e2, h1, h2⟩ := hI.sim (fly_op hI.nr a0)
  exact ⟨a, b, x, y, e1, e2, h2⟩
theorem okL_poke {L i : Nat} {μ ν : Mem} (hL : L ≤ 3072) (hI : INV i μ ν) (hi : i + 6 ≤ L) (a0 : Int32) : ∃ (μ1 ν1 : Mem) (r1 r2 : Int32), f_X11_poke μ a0 = some (μ1, r1) ∧ f_X12_poke ν a0 = some (ν1, r2) ∧ INV (i + 6) μ1 ν1 := by
  obtain ⟨⟨a, x⟩, ⟨b, y⟩, e1, e2, h1, h2⟩ := hI.sim (poke_op hI.nr a0)
  exact ⟨a, b, x, y, e1, e2, h2⟩
theorem okL_draws {L i : Nat} {μ ν : Mem} (hL : L ≤ 3072) (hI : INV i μ ν) (hi : i + 6 ≤ L) (a0 : Int32) : ∃ (μ1 ν1 : Mem) (r1 r2 : Int32), f_X11_draws μ a0 = some (μ1, r1) ∧ f_X12_draws ν a0 = some (ν1, r2) ∧ INV (i + 6) μ1 ν1 := by
  obtain ⟨⟨a, x⟩, ⟨b, y⟩, e1, e2, h1, h2⟩ := draws_op hI a0
  exact ⟨a, b, x, y, e1, e2, h2⟩
theorem okL_seed {L i : Nat} {μ ν : Mem} (hL : L ≤ 3072) (hI : INV i μ ν) (hi : i + 6 ≤ L) (a0 : Int32) : ∃ (μ1 ν1 : Mem) (r1 r2 : Int32), f_X11_seed μ a0 = some (μ1, r1) ∧ f_X12_seed ν a0 = some (ν1, r2) ∧ INV (i + 6) μ1 ν1 := by
  obtain ⟨⟨a, x⟩, ⟨b, y⟩, e1, e2, h1, h2⟩ := seed_op hI a0
  exact ⟨a, b, x, y, e1, e2, h2⟩
theorem okL_then {L i : Nat} {μ ν : Mem} (hL : L ≤ 3072) (hI : INV i μ ν) (hi : i + 6 ≤ L) (a0 : Int32) (a1 : Int32) (a2 : Int32) : ∃ (μ1 ν1 : Mem) (r1 r2 : Int32), f_X11_then μ a0 a1 a2 = some (μ1, r1) ∧ f_X12_then ν a0 a1 a2 = some (ν1, r2) ∧ INV (i + 6) μ1 ν1 := by
  obtain ⟨⟨a, x⟩, ⟨b, y⟩, e1, e2, h1, h2⟩ := then_op hI a0 a1 a2
  exact ⟨a, b, x, y, e1, e2, h2⟩
theorem okL_standing {L i : Nat} {μ ν : Mem} (hL : L ≤ 3072) (hI : INV i μ ν) (hi : i + 6 ≤ L) (a0 : Int32) : ∃ (μ1 ν1 : Mem) (r1 r2 : Int32), f_X11_standing μ a0 = some (μ1, r1) ∧ f_X12_standing ν a0 = some (ν1, r2) ∧ INV (i + 6) μ1 ν1 := by
  obtain ⟨⟨a, x⟩, ⟨b, y⟩, e1, e2, h1, h2⟩ := standing_op hI a0
  exact ⟨a, b, x, y, e1, e2, h2⟩
theorem okL_lasts {L i : Nat} {μ ν : Mem} (hL : L ≤ 3072) (hI : INV i μ ν) (hi : i + 6 ≤ L) (a0 : Int32) : ∃ (μ1 ν1 : Mem) (r1 r2 : Int32), f_X11_lasts μ a0 = some (μ1, r1) ∧ f_X12_lasts ν a0 = some (ν1, r2) ∧ INV (i + 6) μ1 ν1 := by
  obtain ⟨⟨a, x⟩, ⟨b, y⟩, e1, e2, h1, h2⟩ := lasts_op hI a0
  exact ⟨a, b, x, y, e1, e2, h2⟩
theorem okL_lastOne {L i : Nat} {μ ν : Mem} (hL : L ≤ 3072) (hI : INV i μ ν) (hi : i + 6 ≤ L) : ∃ (μ1 ν1 : Mem) (r1 r2 : Int32), f_X11_lastOne μ = some (μ1, r1) ∧ f_X12_lastOne ν = some (ν1, r2) ∧ INV (i + 6) μ1 ν1 := by
  obtain ⟨⟨a, x⟩, ⟨b, y⟩, e1, e2, h1, h2⟩ := lastOne_op hI
  exact ⟨a, b, x, y, e1, e2, h2⟩
theorem okL_round {L i : Nat} {μ ν : Mem} (hL : L ≤ 3072) (hI : INV i μ ν) (hi : i + 6 ≤ L) (a0 : Int32) (a1 : Int32) (a2 : Int32) : ∃ (μ1 ν1 : Mem) (r1 r2 : Int32), f_X11_round μ a0 a1 a2 = some (μ1, r1) ∧ f_X12_round ν a0 a1 a2 = some (ν1, r2) ∧ INV (i + 6) μ1 ν1 := by
  obtain ⟨⟨a, x⟩, ⟨b, y⟩, e1, e2, h1, h2⟩ := round_op hI a0 a1 a2
  exact ⟨a, b, x, y, e1, e2, h2⟩
theorem okL_change {L i : Nat} {μ ν : Mem} (hL : L ≤ 3072) (hI : INV i μ ν) (hi : i + 6 ≤ L) (a0 : Int32) (a1 : Int32) : ∃ (μ1 ν1 : Mem) (r1 r2 : Int32), f_X11_change μ a0 a1 = some (μ1, r1) ∧ f_X12_change ν a0 a1 = some (ν1, r2) ∧ INV (i + 6) μ1 ν1 := by
  obtain ⟨⟨a, x⟩, ⟨b, y⟩, e1, e2, h1, h2⟩ := change_op hI a0 a1
  exact ⟨a, b, x, y, e1, e2, h2⟩
theorem okL_empties {L i : Nat} {μ ν : Mem} (hL : L ≤ 3072) (hI : INV i μ ν) (hi : i + 6 ≤ L) (a0 : Int32) : ∃ (μ1 ν1 : Mem) (r1 r2 : Int32), f_X11_empties μ a0 = some (μ1, r1) ∧ f_X12_empties ν a0 = some (ν1, r2) ∧ INV (i + 6) μ1 ν1 := by
  obtain ⟨⟨a, x⟩, ⟨b, y⟩, e1, e2, h1, h2⟩ := emp_op hI a0
  exact ⟨a, b, x, y, e1, e2, h2⟩
theorem okL_whose {L i : Nat} {μ ν : Mem} (hL : L ≤ 3072) (hI : INV i μ ν) (hi : i + 6 ≤ L) (a0 : Int32) : ∃ (μ1 ν1 : Mem) (r1 r2 : Int32), f_X11_whose μ a0 = some (μ1, r1) ∧ f_X12_whose ν a0 = some (ν1, r2) ∧ INV (i + 6) μ1 ν1 := by
  obtain ⟨⟨a, x⟩, ⟨b, y⟩, e1, e2, h1, h2⟩ := whose_op hI a0
  exact ⟨a, b, x, y, e1, e2, h2⟩
theorem okL_slate {L i : Nat} {μ ν : Mem} (hL : L ≤ 3072) (hI : INV i μ ν) (hi : i + 6 ≤ L) (a0 : Int32) (a1 : Int32) : ∃ (μ1 ν1 : Mem) (r1 r2 : Int64), f_X11_slate μ a0 a1 = some (μ1, r1) ∧ f_X12_slate ν a0 a1 = some (ν1, r2) ∧ INV (i + 6) μ1 ν1 := by
  obtain ⟨⟨a, x⟩, ⟨b, y⟩, e1, e2, h1, h2⟩ := slate_op hI a0 a1
  exact ⟨a, b, x, y, e1, e2, h2⟩
theorem okL_voice {L i : Nat} {μ ν : Mem} (hL : L ≤ 3072) (hI : INV i μ ν) (hi : i + 6 ≤ L) (a0 : Int32) (a1 : Int32) (a2 : Int32) : ∃ (μ1 ν1 : Mem) (r1 r2 : Int32), f_X11_voice μ a0 a1 a2 = some (μ1, r1) ∧ f_X12_voice ν a0 a1 a2 = some (ν1, r2) ∧ INV (i + 6) μ1 ν1 := by
  obtain ⟨⟨a, x⟩, ⟨b, y⟩, e1, e2, h1, h2⟩ := voice_op hI a0 a1 a2
  exact ⟨a, b, x, y, e1, e2, h2⟩
theorem okL_body {L i : Nat} {μ ν : Mem} (hL : L ≤ 3072) (hI : INV i μ ν) (hi : i + 6 ≤ L) (a0 : Int32) : ∃ (μ1 ν1 : Mem) (r1 r2 : Int32), f_X11_body μ a0 = some (μ1, r1) ∧ f_X12_body ν a0 = some (ν1, r2) ∧ INV (i + 6) μ1 ν1 := by
  obtain ⟨⟨a, x⟩, ⟨b, y⟩, e1, e2, h1, h2⟩ := body_op hI a0
  exact ⟨a, b, x, y, e1, e2, h2⟩
theorem okL_sheet {L i : Nat} {μ ν : Mem} (hL : L ≤ 3072) (hI : INV i μ ν) (hi : i + 6 ≤ L) (a0 : Int32) (a1 : Int32) (a2 : Int32) : ∃ (μ1 ν1 : Mem) (r1 r2 : Int32), f_X11_sheet μ a0 a1 a2 = some (μ1, r1) ∧ f_X12_sheet ν a0 a1 a2 = some (ν1, r2) ∧ INV (i + 6) μ1 ν1 := by
  obtain ⟨⟨a, x⟩, ⟨b, y⟩, e1, e2, h1, h2⟩ := sheet_op hI a0 a1 a2
  exact ⟨a, b, x, y, e1, e2, h2⟩
theorem okL_put {L i : Nat} {μ ν : Mem} (hL : L ≤ 3072) (hI : INV i μ ν) (hi : i + 6 ≤ L) (a0 : Int32) (a1 : Int32) (a2 : Int32) : ∃ (μ1 ν1 : Mem) (r1 r2 : Int32), f_X11_put μ a0 a1 a2 = some (μ1, r1) ∧ f_X12_put ν a0 a1 a2 = some (ν1, r2) ∧ INV (i + 6) μ1 ν1 := by
  obtain ⟨⟨a, x⟩, ⟨b, y⟩, e1, e2, h1, h2⟩ := put_op hI a0 a1 a2
  exact ⟨a, b, x, y, e1, e2, h2⟩
theorem okL_move {L i : Nat} {μ ν : Mem} (hL : L ≤ 3072) (hI : INV i μ ν) (hi : i + 6 ≤ L) (a0 : Int32) (a1 : Int32) (a2 : Int32) (a3 : Int32) (a4 : Int32) : ∃ (μ1 ν1 : Mem) (r1 r2 : Int32), f_X11_move μ a0 a1 a2 a3 a4 = some (μ1, r1) ∧ f_X12_move ν a0 a1 a2 a3 a4 = some (ν1, r2) ∧ INV (i + 6) μ1 ν1 := by
  obtain ⟨⟨a, x⟩, ⟨b, y⟩, e1, e2, h1, h2⟩ := move_op hI a0 a1 a2 a3 a4
  exact ⟨a, b, x, y, e1, e2, h2⟩
theorem okL_flies {L i : Nat} {μ ν : Mem} (hL : L ≤ 3072) (hI : INV i μ ν) (hi : i + 6 ≤ L) (a0 : Int32) : ∃ (μ1 ν1 : Mem) (r1 r2 : Int32), f_X11_flies μ a0 = some (μ1, r1) ∧ f_X12_flies ν a0 = some (ν1, r2) ∧ INV (i + 6) μ1 ν1 := by
  obtain ⟨⟨a, x⟩, ⟨b, y⟩, e1, e2, h1, h2⟩ := flies_op hI a0
  exact ⟨a, b, x, y, e1, e2, h2⟩
theorem okL_judge {L i : Nat} {μ ν : Mem} (hL : L ≤ 3072) (hI : INV i μ ν) (hi : i + 6 ≤ L) (a0 : Int32) : ∃ (μ1 ν1 : Mem) (r1 r2 : Int32), f_X11_judge μ a0 = some (μ1, r1) ∧ f_X12_judge ν a0 = some (ν1, r2) ∧ INV (i + 6) μ1 ν1 := by
  obtain ⟨⟨a, x⟩, ⟨b, y⟩, e1, e2, h1, h2⟩ := judge_op hI a0
  exact ⟨a, b, x, y, e1, e2, h2⟩
theorem okL_image {L i : Nat} {μ ν : Mem} (hL : L ≤ 3072) (hI : INV i μ ν) (hi : i + 6 ≤ L) : ∃ (μ1 ν1 : Mem) (r1 r2 : Int32), f_X11_image μ = some (μ1, r1) ∧ f_X12_image ν = some (ν1, r2) ∧ INV (i + 6) μ1 ν1 := by
  obtain ⟨⟨a, x⟩, ⟨b, y⟩, e1, e2, h1, h2⟩ := image_op hI
  exact ⟨a, b, x, y, e1, e2, h2⟩
theorem okL_restore {L i : Nat} {μ ν : Mem} (hL : L ≤ 3072) (hI : INV i μ ν) (hi : i + 6 ≤ L) : ∃ (μ1 ν1 : Mem) (r1 r2 : Int32), f_X11_restore μ = some (μ1, r1) ∧ f_X12_restore ν = some (ν1, r2) ∧ INV (i + 6) μ1 ν1 := by
  obtain ⟨⟨a, x⟩, ⟨b, y⟩, e1, e2, h1, h2⟩ := restore_op hI
  exact ⟨a, b, x, y, e1, e2, h2⟩
theorem okL_tell {L i : Nat} {μ ν : Mem} (hL : L ≤ 3072) (hI : INV i μ ν) (hi : i + 6 ≤ L) (a0 : Int32) : ∃ (μ1 ν1 : Mem) (r1 r2 : Int32), f_X11_tell μ a0 = some (μ1, r1) ∧ f_X12_tell ν a0 = some (ν1, r2) ∧ INV (i + 6) μ1 ν1 := by
  obtain ⟨⟨a, x⟩, ⟨b, y⟩, e1, e2, h1, h2⟩ := tell_op hI a0
  exact ⟨a, b, x, y, e1, e2, h2⟩
theorem okL_check {L i : Nat} {μ ν : Mem} (hL : L ≤ 3072) (hI : INV i μ ν) (hi : i + 6 ≤ L) : ∃ (μ1 ν1 : Mem) (r1 r2 : Int32), f_X11_check μ = some (μ1, r1) ∧ f_X12_check ν = some (ν1, r2) ∧ r1 = r2 ∧ INV (i + 6) μ1 ν1 := by
  obtain ⟨⟨a, x⟩, ⟨b, y⟩, e1, e2, h1, h2⟩ := check_op hI
  exact ⟨a, b, x, y, e1, e2, h1, h2⟩
theorem okL_count {L i : Nat} {μ ν : Mem} (hL : L ≤ 3072) (hI : INV i μ ν) (hi : i + 6 ≤ L) (a0 : Int32) : ∃ (μ1 ν1 : Mem) (r1 r2 : Int32), f_X11_count μ a0 = some (μ1, r1) ∧ f_X12_count ν a0 = some (ν1, r2) ∧ INV (i + 6) μ1 ν1 := by
  obtain ⟨⟨a, x⟩, ⟨b, y⟩, e1, e2, h1, h2⟩ := count_op hI a0
  exact ⟨a, b, x, y, e1, e2, h2⟩
theorem okL_told {L i : Nat} {μ ν : Mem} (hL : L ≤ 3072) (hI : INV i μ ν) (hi : i + 6 ≤ L) (a0 : Int32) : ∃ (μ1 ν1 : Mem) (r1 r2 : Int32), f_X11_told μ a0 = some (μ1, r1) ∧ f_X12_told ν a0 = some (ν1, r2) ∧ INV (i + 6) μ1 ν1 := by
  obtain ⟨⟨a, x⟩, ⟨b, y⟩, e1, e2, h1, h2⟩ := told_op hI a0
  exact ⟨a, b, x, y, e1, e2, h2⟩
