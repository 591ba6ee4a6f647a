theorem vh_0 {k : Nat} {σ0 ν0 : Mem} : BK k 0 σ0 ν0 f_X7_holds_k0 (fun ν x => f_X12_holdsAs ν (nI 0) x) := by
  intro σ ν x v
  exact holds0 7 σ ν x v
theorem vh_1 {k : Nat} {σ0 ν0 : Mem} : BK k 1 σ0 ν0 f_X0_holds_k1 (fun ν x => f_X12_holdsAs ν (nI 1) x) := by
  intro σ ν x v
  show Sim _ (f_X0_holds_k1 σ x) (rec_Mh (7 + 1) ν (1 : Int32) x)
  rw [mh1]
  exact bk_step (holds0 6) 20 (fun x => x) (fun σ y => some (σ, y - (4 : Int32))) _ (bk_some fun y => y - (4 : Int32)) v x
theorem vh_2 {k : Nat} {σ0 ν0 : Mem} : BK k 2 σ0 ν0 f_X7_holds_k2 (fun ν x => f_X12_holdsAs ν (nI 2) x) := by
  intro σ ν x v
  show Sim _ (f_X7_holds_k2 σ x) (rec_Mh (7 + 1) ν (2 : Int32) x)
  rw [mh2]
  exact holds0 6 σ ν x v
theorem vh_3 {k : Nat} {σ0 ν0 : Mem} : BK k 3 σ0 ν0 f_X7_holds_k3 (fun ν x => f_X12_holdsAs ν (nI 3) x) := by
  intro σ ν x v
  show Sim _ (f_X7_holds_k3 σ x) (rec_Mh (7 + 1) ν (3 : Int32) x)
  rw [mh3]
  exact holds0 6 σ ν x v
theorem vh_41 {k : Nat} {σ0 ν0 : Mem} : BK k 4 σ0 ν0 f_X0_holds_k4 (fun ν x => rec_Mh 7 ν (1 : Int32) x) := by
  intro σ ν x v
  show Sim _ (f_X0_holds_k4 σ x) (rec_Mh (6 + 1) ν (1 : Int32) x)
  rw [mh1]
  exact bk_step (holds0 5) 20 (fun x => x) (fun σ y => some (σ, y - (4 : Int32))) _ (bk_some fun y => y - (4 : Int32)) v x
theorem vh_4 {k : Nat} {σ0 ν0 : Mem} : BK k 4 σ0 ν0 f_X3_holds_k4 (fun ν x => f_X12_holdsAs ν (nI 4) x) := by
  intro σ ν x v
  show Sim _ (f_X3_holds_k4 σ x) (rec_Mh (7 + 1) ν (4 : Int32) x)
  rw [mh4]
  exact bk_step vh_41 50 (fun x => x) (fun σ y => some (σ, y * (3 : Int32))) _ (bk_some fun y => y * (3 : Int32)) v x
theorem vh_5 {k : Nat} {σ0 ν0 : Mem} : BK k 5 σ0 ν0 f_X7_holds_k5 (fun ν x => f_X12_holdsAs ν (nI 5) x) := by
  intro σ ν x v
  show Sim _ (f_X7_holds_k5 σ x) (rec_Mh (7 + 1) ν (5 : Int32) x)
  rw [mh5]
  show Sim _ (f_X7_holds_k5 σ x) (rec_Mh (6 + 1) ν (2 : Int32) x)
  rw [mh2]
  exact holds0 5 σ ν x v
theorem vh_6 {k : Nat} {σ0 ν0 : Mem} : BK k 6 σ0 ν0 f_X9_holds_k6 (fun ν x => f_X12_holdsAs ν (nI 6) x) := by
  intro σ ν x v
  show Sim _ (f_X9_holds_k6 σ x) (rec_Mh (7 + 1) ν (6 : Int32) x)
  rw [mh6]
  refine (vs_begin v 70).bind ?_
  intro a b v1
  exact Sim.pure ⟨rfl, v1⟩
theorem vl0_0 {k : Nat} {σ0 ν0 : Mem} (d : Nat) : BK k 0 σ0 ν0 f_X7_leans_k0 (fun ν x => rec_Ml (d + 1) ν (0 : Int32) x) := fun σ ν x v => leans0 vh_0 d σ ν x v
theorem vl0_1 {k : Nat} {σ0 ν0 : Mem} (d : Nat) : BK k 1 σ0 ν0 f_X7_leans_k1 (fun ν x => rec_Ml (d + 1) ν (0 : Int32) x) := fun σ ν x v => leans0 vh_1 d σ ν x v
theorem vl0_2 {k : Nat} {σ0 ν0 : Mem} (d : Nat) : BK k 2 σ0 ν0 f_X7_leans_k2 (fun ν x => rec_Ml (d + 1) ν (0 : Int32) x) := fun σ ν x v => leans0 vh_2 d σ ν x v
theorem vl0_3 {k : Nat} {σ0 ν0 : Mem} (d : Nat) : BK k 3 σ0 ν0 f_X7_leans_k3 (fun ν x => rec_Ml (d + 1) ν (0 : Int32) x) := fun σ ν x v => leans0 vh_3 d σ ν x v
theorem vl0_4 {k : Nat} {σ0 ν0 : Mem} (d : Nat) : BK k 4 σ0 ν0 f_X7_leans_k4 (fun ν x => rec_Ml (d + 1) ν (0 : Int32) x) := fun σ ν x v => leans0 vh_4 d σ ν x v
theorem vl0_5 {k : Nat} {σ0 ν0 : Mem} (d : Nat) : BK k 5 σ0 ν0 f_X7_leans_k5 (fun ν x => rec_Ml (d + 1) ν (0 : Int32) x) := fun σ ν x v => leans0 vh_5 d σ ν x v
theorem vl0_6 {k : Nat} {σ0 ν0 : Mem} (d : Nat) : BK k 6 σ0 ν0 f_X7_leans_k6 (fun ν x => rec_Ml (d + 1) ν (0 : Int32) x) := fun σ ν x v => leans0 vh_6 d σ ν x v
theorem vl_0 {k : Nat} {σ0 ν0 : Mem} : BK k 0 σ0 ν0 f_X7_leans_k0 (fun ν x => f_X12_leansAs ν (nI 0) x) := by
  exact vl0_0 7
theorem vl_1 {k : Nat} {σ0 ν0 : Mem} : BK k 1 σ0 ν0 f_X7_leans_k1 (fun ν x => f_X12_leansAs ν (nI 1) x) := by
  intro σ ν x v
  show Sim _ (f_X7_leans_k1 σ x) (rec_Ml (7 + 1) ν (1 : Int32) x)
  rw [ml1]
  exact vl0_1 6 σ ν x v
theorem vl_2 {k : Nat} {σ0 ν0 : Mem} : BK k 2 σ0 ν0 f_X2_leans_k2 (fun ν x => f_X12_leansAs ν (nI 2) x) := by
  intro σ ν x v
  show Sim _ (f_X2_leans_k2 σ x) (rec_Ml (7 + 1) ν (2 : Int32) x)
  rw [ml2]
  exact bk_step (vl0_2 6) 30 (fun x => x) (fun σ y => some (σ, (0 : Int32) - y)) _ (bk_some fun y => (0 : Int32) - y) v x
theorem vl_3 {k : Nat} {σ0 ν0 : Mem} : BK k 3 σ0 ν0 f_X7_leans_k3 (fun ν x => f_X12_leansAs ν (nI 3) x) := by
  intro σ ν x v
  show Sim _ (f_X7_leans_k3 σ x) (rec_Ml (7 + 1) ν (3 : Int32) x)
  rw [ml3]
  exact vl0_3 6 σ ν x v
theorem vl_4 {k : Nat} {σ0 ν0 : Mem} : BK k 4 σ0 ν0 f_X7_leans_k4 (fun ν x => f_X12_leansAs ν (nI 4) x) := by
  intro σ ν x v
  show Sim _ (f_X7_leans_k4 σ x) (rec_Ml (7 + 1) ν (4 : Int32) x)
  rw [ml4]
  show Sim _ (f_X7_leans_k4 σ x) (rec_Ml (6 + 1) ν (1 : Int32) x)
  rw [ml1]
  exact vl0_4 5 σ ν x v
theorem vl_52 {k : Nat} {σ0 ν0 : Mem} : BK k 5 σ0 ν0 f_X2_leans_k5 (fun ν x => rec_Ml 7 ν (2 : Int32) x) := by
  intro σ ν x v
  show Sim _ (f_X2_leans_k5 σ x) (rec_Ml (6 + 1) ν (2 : Int32) x)
  rw [ml2]
  exact bk_step (vl0_5 5) 30 (fun x => x) (fun σ y => some (σ, (0 : Int32) - y)) _ (bk_some fun y => (0 : Int32) - y) v x
theorem vl_5 {k : Nat} {σ0 ν0 : Mem} : BK k 5 σ0 ν0 f_X10_leans_k5 (fun ν x => f_X12_leansAs ν (nI 5) x) := by
  intro σ ν x v
  show Sim _ (f_X10_leans_k5 σ x) (rec_Ml (7 + 1) ν (5 : Int32) x)
  rw [ml5]
  exact bk_step vl_52 60 (fun x => x + (1 : Int32)) (fun σ y => some (σ, y)) _ (bk_some fun y => y) v x
theorem vl_6 {k : Nat} {σ0 ν0 : Mem} : BK k 6 σ0 ν0 f_X9_leans_k6 (fun ν x => f_X12_leansAs ν (nI 6) x) := by
  intro σ ν x v
  show Sim _ (f_X9_leans_k6 σ x) (rec_Ml (7 + 1) ν (6 : Int32) x)
  rw [ml6]
  refine bk_step (vl0_6 6) 71 (fun x => x) (fun σ y => some (σ, y + σ 0 1)) (fun ν y => (f_X12_mNow ν).bind fun q3 => some (q3.1, y + q3.2)) ?_ v x
  intro σ ν y v1
  show Sim _ _ ((f_X12_mNow ν).bind fun q3 => some (q3.1, y + q3.2))
  rw [m_now v1]
  exact Sim.pure ⟨rfl, v1⟩
theorem vs0_0 {k : Nat} {σ0 ν0 : Mem} (d : Nat) : BK k 0 σ0 ν0 f_X7_sways_k0 (fun ν x => rec_Ms (d + 1) ν (0 : Int32) x) := fun σ ν x v => sways0 vl_0 d σ ν x v
theorem vs0_1 {k : Nat} {σ0 ν0 : Mem} (d : Nat) : BK k 1 σ0 ν0 f_X7_sways_k1 (fun ν x => rec_Ms (d + 1) ν (0 : Int32) x) := fun σ ν x v => sways0 vl_1 d σ ν x v
theorem vs0_2 {k : Nat} {σ0 ν0 : Mem} (d : Nat) : BK k 2 σ0 ν0 f_X7_sways_k2 (fun ν x => rec_Ms (d + 1) ν (0 : Int32) x) := fun σ ν x v => sways0 vl_2 d σ ν x v
theorem vs0_3 {k : Nat} {σ0 ν0 : Mem} (d : Nat) : BK k 3 σ0 ν0 f_X7_sways_k3 (fun ν x => rec_Ms (d + 1) ν (0 : Int32) x) := fun σ ν x v => sways0 vl_3 d σ ν x v
theorem vs0_4 {k : Nat} {σ0 ν0 : Mem} (d : Nat) : BK k 4 σ0 ν0 f_X7_sways_k4 (fun ν x => rec_Ms (d + 1) ν (0 : Int32) x) := fun σ ν x v => sways0 vl_4 d σ ν x v
theorem vs0_5 {k : Nat} {σ0 ν0 : Mem} (d : Nat) : BK k 5 σ0 ν0 f_X7_sways_k5 (fun ν x => rec_Ms (d + 1) ν (0 : Int32) x) := fun σ ν x v => sways0 vl_5 d σ ν x v
theorem vs0_6 {k : Nat} {σ0 ν0 : Mem} (d : Nat) : BK k 6 σ0 ν0 f_X7_sways_k6 (fun ν x => rec_Ms (d + 1) ν (0 : Int32) x) := fun σ ν x v => sways0 vl_6 d σ ν x v
theorem vw_0 {k : Nat} {σ0 ν0 : Mem} : BK k 0 σ0 ν0 f_X7_sways_k0 (fun ν x => f_X12_swaysAs ν (nI 0) x) := by
  exact vs0_0 7
theorem vw_1 {k : Nat} {σ0 ν0 : Mem} : BK k 1 σ0 ν0 f_X7_sways_k1 (fun ν x => f_X12_swaysAs ν (nI 1) x) := by
  intro σ ν x v
  show Sim _ (f_X7_sways_k1 σ x) (rec_Ms (7 + 1) ν (1 : Int32) x)
  rw [ms1]
  exact vs0_1 6 σ ν x v
theorem vw_2 {k : Nat} {σ0 ν0 : Mem} : BK k 2 σ0 ν0 f_X7_sways_k2 (fun ν x => f_X12_swaysAs ν (nI 2) x) := by
  intro σ ν x v
  show Sim _ (f_X7_sways_k2 σ x) (rec_Ms (7 + 1) ν (2 : Int32) x)
  rw [ms2]
  exact vs0_2 6 σ ν x v
theorem vw_3 {k : Nat} {σ0 ν0 : Mem} : BK k 3 σ0 ν0 f_X8_sways_k3 (fun ν x => f_X12_swaysAs ν (nI 3) x) := by
  intro σ ν x v
  show Sim _ (f_X8_sways_k3 σ x) (rec_Ms (7 + 1) ν (3 : Int32) x)
  rw [ms3]
  exact bk_step (vs0_3 6) 40 (fun x => x / (2 : Int32)) (fun σ y => some (σ, y)) _ (bk_some fun y => y) v x
theorem vw_41 {k : Nat} {σ0 ν0 : Mem} : BK k 4 σ0 ν0 f_X7_sways_k4 (fun ν x => rec_Ms 7 ν (1 : Int32) x) := by
  intro σ ν x v
  show Sim _ (f_X7_sways_k4 σ x) (rec_Ms (6 + 1) ν (1 : Int32) x)
  rw [ms1]
  exact vs0_4 5 σ ν x v
theorem vw_4 {k : Nat} {σ0 ν0 : Mem} : BK k 4 σ0 ν0 f_X3_sways_k4 (fun ν x => f_X12_swaysAs ν (nI 4) x) := by
  intro σ ν x v
  show Sim _ (f_X3_sways_k4 σ x) (rec_Ms (7 + 1) ν (4 : Int32) x)
  rw [ms4]
  refine bk_step vw_41 51 (fun x => x) (fun σ y => some (σ, y ^^^ σ 0 0)) (fun ν y => some (ν, y ^^^ ν 0 15)) ?_ v x
  intro σ ν y v1
  refine Sim.pure ⟨?_, v1⟩
  show y ^^^ σ 0 0 = y ^^^ ν 0 15
  rw [v1.1, v1.2.2.2.2.2.2.1]
theorem vw_5 {k : Nat} {σ0 ν0 : Mem} : BK k 5 σ0 ν0 f_X7_sways_k5 (fun ν x => f_X12_swaysAs ν (nI 5) x) := by
  intro σ ν x v
  show Sim _ (f_X7_sways_k5 σ x) (rec_Ms (7 + 1) ν (5 : Int32) x)
  rw [ms5]
  show Sim _ (f_X7_sways_k5 σ x) (rec_Ms (6 + 1) ν (2 : Int32) x)
  rw [ms2]
  exact vs0_5 5 σ ν x v
theorem vw_6 {k : Nat} {σ0 ν0 : Mem} : BK k 6 σ0 ν0 f_X7_sways_k6 (fun ν x => f_X12_swaysAs ν (nI 6) x) := by
  intro σ ν x v
  show Sim _ (f_X7_sways_k6 σ x) (rec_Ms (7 + 1) ν (6 : Int32) x)
  rw [ms6]
  exact vs0_6 6 σ ν x v
theorem vp0_0 {k : Nat} {σ0 ν0 : Mem} (d : Nat) : BP k 0 σ0 ν0 f_X7_parts_k0 (fun ν x => rec_Mp (d + 1) ν (0 : Int32) x) := fun σ ν x v => parts0 d σ ν x v
theorem vp0_1 {k : Nat} {σ0 ν0 : Mem} (d : Nat) : BP k 1 σ0 ν0 f_X7_parts_k1 (fun ν x => rec_Mp (d + 1) ν (0 : Int32) x) := fun σ ν x v => parts0 d σ ν x v
theorem vp0_2 {k : Nat} {σ0 ν0 : Mem} (d : Nat) : BP k 2 σ0 ν0 f_X7_parts_k2 (fun ν x => rec_Mp (d + 1) ν (0 : Int32) x) := fun σ ν x v => parts0 d σ ν x v
theorem vp0_3 {k : Nat} {σ0 ν0 : Mem} (d : Nat) : BP k 3 σ0 ν0 f_X7_parts_k3 (fun ν x => rec_Mp (d + 1) ν (0 : Int32) x) := fun σ ν x v => parts0 d σ ν x v
theorem vp0_4 {k : Nat} {σ0 ν0 : Mem} (d : Nat) : BP k 4 σ0 ν0 f_X7_parts_k4 (fun ν x => rec_Mp (d + 1) ν (0 : Int32) x) := fun σ ν x v => parts0 d σ ν x v
theorem vp0_5 {k : Nat} {σ0 ν0 : Mem} (d : Nat) : BP k 5 σ0 ν0 f_X7_parts_k5 (fun ν x => rec_Mp (d + 1) ν (0 : Int32) x) := fun σ ν x v => parts0 d σ ν x v
theorem vp0_6 {k : Nat} {σ0 ν0 : Mem} (d : Nat) : BP k 6 σ0 ν0 f_X7_parts_k6 (fun ν x => rec_Mp (d + 1) ν (0 : Int32) x) := fun σ ν x v => parts0 d σ ν x v
theorem vq_0 {k : Nat} {σ0 ν0 : Mem} : BP k 0 σ0 ν0 f_X7_parts_k0 (fun ν x => f_X12_partsAs ν (nI 0) x) := by
  exact vp0_0 7
theorem vq_1 {k : Nat} {σ0 ν0 : Mem} : BP k 1 σ0 ν0 f_X0_parts_k1 (fun ν x => f_X12_partsAs ν (nI 1) x) := by
  exact fun σ ν x v => parts1 (d := 7) (vp0_1 6) vl_1 σ ν x v
theorem vq_2 {k : Nat} {σ0 ν0 : Mem} : BP k 2 σ0 ν0 f_X7_parts_k2 (fun ν x => f_X12_partsAs ν (nI 2) x) := by
  intro σ ν x v
  show Sim _ (f_X7_parts_k2 σ x) (rec_Mp (7 + 1) ν (2 : Int32) x)
  rw [mp2]
  exact vp0_2 6 σ ν x v
theorem vq_3 {k : Nat} {σ0 ν0 : Mem} : BP k 3 σ0 ν0 f_X7_parts_k3 (fun ν x => f_X12_partsAs ν (nI 3) x) := by
  intro σ ν x v
  show Sim _ (f_X7_parts_k3 σ x) (rec_Mp (7 + 1) ν (3 : Int32) x)
  rw [mp3]
  exact vp0_3 6 σ ν x v
theorem vq_4 {k : Nat} {σ0 ν0 : Mem} : BP k 4 σ0 ν0 f_X0_parts_k4 (fun ν x => f_X12_partsAs ν (nI 4) x) := by
  intro σ ν x v
  show Sim _ (f_X0_parts_k4 σ x) (rec_Mp (7 + 1) ν (4 : Int32) x)
  rw [mp4]
  exact parts1 (d := 6) (vp0_4 5) vl_4 σ ν x v
theorem vq_5 {k : Nat} {σ0 ν0 : Mem} : BP k 5 σ0 ν0 f_X7_parts_k5 (fun ν x => f_X12_partsAs ν (nI 5) x) := by
  intro σ ν x v
  show Sim _ (f_X7_parts_k5 σ x) (rec_Mp (7 + 1) ν (5 : Int32) x)
  rw [mp5]
  show Sim _ (f_X7_parts_k5 σ x) (rec_Mp (6 + 1) ν (2 : Int32) x)
  rw [mp2]
  exact vp0_5 5 σ ν x v
theorem vq_6 {k : Nat} {σ0 ν0 : Mem} : BP k 6 σ0 ν0 f_X7_parts_k6 (fun ν x => f_X12_partsAs ν (nI 6) x) := by
  intro σ ν x v
  show Sim _ (f_X7_parts_k6 σ x) (rec_Mp (7 + 1) ν (6 : Int32) x)
  rw [mp6]
  exact vp0_6 6 σ ν x v
