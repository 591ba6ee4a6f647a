/-! the reference's smallest methods, on places that are numbers -/
theorem inb_nI {j n : Nat} (h : j < n) (hn : n < 2 ^ 31) : inb (nI j) n = true := by
  unfold inb
  rw [nI_toInt (by omega)]
  simp [h]
theorem cl_nI {j : Nat} (h : j < 2 ^ 31) : (nI j).toNatClampNeg = j := nI_clamp h
theorem at_nI (k c : Nat) : ((8 : Int32) + ((5 : Int32) * nI k)) + nI c = nI (8 + 5 * k + c) := by
  rw [show (8 : Int32) = nI 8 from rfl, show (5 : Int32) = nI 5 from rfl, pk_mul, nI_add, nI_add]
theorem its_ok (μ : Mem) (k c : Nat) (hk : k < 9) (hc : c < 5) : f_X12_its μ (nI k) (nI c) = some (μ, μ 1 (8 + 5 * k + c)) := by
  unfold f_X12_its
  rw [at_nI, inb_nI (by omega) (by omega), cl_nI (by omega)]
  rfl
theorem lays1_ok (μ : Mem) (k c : Nat) (v : Int32) (hk : k < 9) (hc : c < 5) : f_X12_lays1 μ (nI k) (nI c) v = some (upA μ 1 (upd (μ 1) (8 + 5 * k + c) v)) := by
  unfold f_X12_lays1
  rw [at_nI, inb_nI (by omega) (by omega), cl_nI (by omega)]
  rfl
