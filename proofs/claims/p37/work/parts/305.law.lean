theorem nd85 : va_nd (List.range 85) = true := by decide +kernel
theorem nd14a : va_nd (List.range 14) = true := by decide +kernel
theorem nd14 : va_nd ((List.range 14).map (fun i => 85 + i)) = true := by decide +kernel
set_option maxHeartbeats 40000000 in
set_option maxRecDepth 20000 in
theorem law_loop {p : Program} {l : Launch} {e : Env} {s : State} {m : MethodId} {below : List Frame} {meth : Method} {c : Code} {E : Ev} {A : Nat → Prop} {tn tt b L : Nat} {xs : Nat → Int32} (hL : L ≤ 3072) (hAe : A = fun q => s.heap.size ≤ q) (hr0 : meth.sig.returnType = ret) (hlk : meth.locks = false) (X : CX p s m #[Value.ref b] c RL code E A 4) (F : Fx tn tt A s) (hX : va_X b L xs s s.heap) (hbl : b < s.heap.size) :
    ∀ (n i : Nat) (h : Nat → Nat) (g : Nat → Option Nat) (h2 : Nat → Nat) (μ ν : Mem), i ≤ L → L + 6 ≤ i + 6 * n → INV i μ ν → JN p l e room_1 s m #[Value.ref b] below meth c E A 4 (lw_Z below #[Value.ref b] s) 99 2919 (wX E h g μ ++ wM E h2 (fun _ => none) ν) [some (.ref b), some (.ref (h 0)), some (.ref (h2 0)), some (.int (nI i))] 18 [] := by
  have hbA : ¬ A b := by rw [hAe]; exact Nat.not_le.mpr hbl
  intro n
  induction n with
  | zero =>
    intro i h g h2 μ ν h1 h9
    exact absurd h9 (by omega)
  | succ n ih =>
    intro i h g h2 μ ν hiL hin hI
    refine n_iload_n X dL_law_18 rfl rfl ?_
    refine n_aload_n X dL_law_19 rfl rfl ?_
    refine n_slen X hX hbl hbA dL_law_20 ?_
    refine n_bipush (v := (6 : Int32)) X dL_law_21 (by decide) ?_
    refine n_isub X dL_law_23 ?_
    refine n_icmp_gt (tgt := 1300) X dL_law_24 (by decide) (fun _ => ?_) (fun cx => ?_)
    · refine n_iconst (v := (1 : Int32)) X dL_law_1300 (by decide) ?_
      intro H locs ls hP hD hS hLs
      refine va_forget (fun q hq => by have := hS.2.2 q hq; rw [hAe] at this; exact this) ?_
      refine W.widen (k := 600000) (n := 7302250) (by decide) (by decide) ?_
      exact lw_ret X.1 X.2.1 hr0 hlk dL_law_1301
    have hi6 : i + 6 ≤ L := lw_end hiL (by omega) cx
    refine n_aload_n X dL_law_27 rfl rfl ?_
    refine n_iload_n X dL_law_28 rfl rfl ?_
    refine n_sld X hX hbl hbA (vp_in_nI (show i < L by omega) (by omega)) dL_law_29 ?_
    refine n_bipush (v := (63 : Int32)) X dL_law_30 (by decide) ?_
    refine n_iand X dL_law_32 ?_
    have tail : ∀ (h1 : Nat → Nat) (g1 : Nat → Option Nat) (μ1 ν1 : Mem), h1 0 = h 0 → INV (i + 6) μ1 ν1 → JN p l e room_1 s m #[Value.ref b] below meth c E A 4 (lw_Z below #[Value.ref b] s) 99 2919 (wX E h1 g1 μ1 ++ wM E h2 (fun _ => none) ν1) [some (.ref b), some (.ref (h 0)), some (.ref (h2 0)), some (.int (nI i))] 1294 [] := by
      intro h1 g1 μ1 ν1 e1 hI1
      refine n_iincX (k := (6 : Int32)) (v := nI (i + 6)) X dL_law_1294 (by decide) (nI_ad i 6 rfl).symm rfl (by decide) rfl (lo' := [some (.ref b), some (.ref (h 0)), some (.ref (h2 0)), some (.int (nI (i + 6)))]) rfl ?_
      refine n_goto (tgt := 18) X dL_law_1297 (by decide) ?_
      refine n_loc (lo' := [some (.ref b), some (.ref (h1 0)), some (.ref (h2 0)), some (.int (nI (i + 6)))]) (by rw [e1]) ?_
      exact ih (i + 6) h1 g1 h2 μ1 ν1 hi6 (by omega) hI1
    generalize hz : xs (nI i).toNatClampNeg &&& (63 : Int32) = z
    by_cases n_0 : z = (0 : Int32)
    · refine n_tsI (k := (0 : Int32)) (tgt := 200) X n_0 dL_law_33 (by decide) (by decide) rfl (by decide) ?_
      refine n_aload_n X dL_law_200 rfl rfl ?_
      refine n_aload_n X dL_law_201 rfl rfl ?_
      refine n_iload_n X dL_law_202 rfl rfl ?_
      refine n_iconst (v := (1 : Int32)) X dL_law_203 (by decide) ?_
      refine n_iadd X dL_law_204 ?_
      refine n_top (y := nI (i + 1)) (nI_ad i 1 rfl) ?_
      refine n_sld X hX hbl hbA (vp_in_nI (show i + 1 < L by omega) (by omega)) dL_law_205 ?_
      refine n_top (y := xs (i + 1)) (by rw [nI_clamp (show i + 1 < 2 ^ 31 by omega)]) ?_
      refine n_aload_n X dL_law_206 rfl rfl ?_
      refine n_iload_n X dL_law_207 rfl rfl ?_
      refine n_iconst (v := (2 : Int32)) X dL_law_208 (by decide) ?_
      refine n_iadd X dL_law_209 ?_
      refine n_top (y := nI (i + 2)) (nI_ad i 2 rfl) ?_
      refine n_sld X hX hbl hbA (vp_in_nI (show i + 2 < L by omega) (by omega)) dL_law_210 ?_
      refine n_top (y := xs (i + 2)) (by rw [nI_clamp (show i + 2 < 2 ^ 31 by omega)]) ?_
      obtain ⟨μ1, ν1, r1, r2, hx, hm, hI1⟩ := okL_stander hL hI hi6 (xs (i + 1)) (xs (i + 2))
      refine n_callV X (n := 2) (List.range 85) 0 (c_X11_stander E h g hx) (capL rfl) nd85 (List.length_range.trans rfl) (ws' := (wX E h g μ1 ++ wM E h2 (fun _ => none) ν)) (putL nd85 rfl rfl) (wX_0 ..) rfl k_341 k_342 k_343 k_68 k_344 ⟨rfl, rfl⟩ hdV_X11_stander ⟨Nat.le_of_ble_eq_true rfl, Nat.le_of_ble_eq_true rfl⟩ ⟨Nat.le_of_ble_eq_true rfl, Nat.le_of_ble_eq_true rfl⟩ rfl (Nat.le_of_ble_eq_true rfl) rfl dL_law_211 ?_
      refine n_pop X dL_law_214 rfl ?_
      refine n_aload_n X dL_law_215 rfl rfl ?_
      refine n_aload_n X dL_law_216 rfl rfl ?_
      refine n_iload_n X dL_law_217 rfl rfl ?_
      refine n_iconst (v := (1 : Int32)) X dL_law_218 (by decide) ?_
      refine n_iadd X dL_law_219 ?_
      refine n_top (y := nI (i + 1)) (nI_ad i 1 rfl) ?_
      refine n_sld X hX hbl hbA (vp_in_nI (show i + 1 < L by omega) (by omega)) dL_law_220 ?_
      refine n_top (y := xs (i + 1)) (by rw [nI_clamp (show i + 1 < 2 ^ 31 by omega)]) ?_
      refine n_aload_n X dL_law_221 rfl rfl ?_
      refine n_iload_n X dL_law_222 rfl rfl ?_
      refine n_iconst (v := (2 : Int32)) X dL_law_223 (by decide) ?_
      refine n_iadd X dL_law_224 ?_
      refine n_top (y := nI (i + 2)) (nI_ad i 2 rfl) ?_
      refine n_sld X hX hbl hbA (vp_in_nI (show i + 2 < L by omega) (by omega)) dL_law_225 ?_
      refine n_top (y := xs (i + 2)) (by rw [nI_clamp (show i + 2 < 2 ^ 31 by omega)]) ?_
      refine n_callV X (n := 2) ((List.range 14).map (fun i => 85 + i)) 0 (c_X12_stander E h2 (fun _ => none) hm) (capR rfl rfl) nd14 (by rw [List.length_map, List.length_range]; rfl) (ws' := (wX E h g μ1 ++ wM E h2 (fun _ => none) ν1)) (putR nd14a nd14 rfl rfl rfl) (wM_0 ..) rfl k_1045 k_1046 k_1047 k_80 k_1048 ⟨rfl, rfl⟩ hdV_X12_stander ⟨Nat.le_of_ble_eq_true rfl, Nat.le_of_ble_eq_true rfl⟩ ⟨Nat.le_of_ble_eq_true rfl, Nat.le_of_ble_eq_true rfl⟩ rfl (Nat.le_of_ble_eq_true rfl) rfl dL_law_226 ?_
      refine n_pop X dL_law_229 rfl ?_
      refine n_goto (tgt := 1294) X dL_law_230 (by decide) ?_
      exact tail h g μ1 ν1 rfl hI1
    by_cases n_1 : z = (1 : Int32)
    · refine n_tsI (k := (1 : Int32)) (tgt := 233) X n_1 dL_law_33 (by decide) (by decide) rfl (by decide) ?_
      refine n_aload_n X dL_law_233 rfl rfl ?_
      refine n_aload_n X dL_law_234 rfl rfl ?_
      refine n_iload_n X dL_law_235 rfl rfl ?_
      refine n_iconst (v := (1 : Int32)) X dL_law_236 (by decide) ?_
      refine n_iadd X dL_law_237 ?_
      refine n_top (y := nI (i + 1)) (nI_ad i 1 rfl) ?_
      refine n_sld X hX hbl hbA (vp_in_nI (show i + 1 < L by omega) (by omega)) dL_law_238 ?_
      refine n_top (y := xs (i + 1)) (by rw [nI_clamp (show i + 1 < 2 ^ 31 by omega)]) ?_
      refine n_aload_n X dL_law_239 rfl rfl ?_
      refine n_iload_n X dL_law_240 rfl rfl ?_
      refine n_iconst (v := (2 : Int32)) X dL_law_241 (by decide) ?_
      refine n_iadd X dL_law_242 ?_
      refine n_top (y := nI (i + 2)) (nI_ad i 2 rfl) ?_
      refine n_sld X hX hbl hbA (vp_in_nI (show i + 2 < L by omega) (by omega)) dL_law_243 ?_
      refine n_top (y := xs (i + 2)) (by rw [nI_clamp (show i + 2 < 2 ^ 31 by omega)]) ?_
      obtain ⟨μ1, ν1, r1, r2, hx, hm, hI1⟩ := okL_standerIs hL hI hi6 (xs (i + 1)) (xs (i + 2))
      refine n_callV X (n := 2) (List.range 85) 0 (c_X11_standerIs E h g hx) (capL rfl) nd85 (List.length_range.trans rfl) (ws' := (wX E h g μ1 ++ wM E h2 (fun _ => none) ν)) (putL nd85 rfl rfl) (wX_0 ..) rfl k_356 k_357 k_358 k_68 k_359 ⟨rfl, rfl⟩ hdV_X11_standerIs ⟨Nat.le_of_ble_eq_true rfl, Nat.le_of_ble_eq_true rfl⟩ ⟨Nat.le_of_ble_eq_true rfl, Nat.le_of_ble_eq_true rfl⟩ rfl (Nat.le_of_ble_eq_true rfl) rfl dL_law_244 ?_
      refine n_pop X dL_law_247 rfl ?_
      refine n_aload_n X dL_law_248 rfl rfl ?_
      refine n_aload_n X dL_law_249 rfl rfl ?_
      refine n_iload_n X dL_law_250 rfl rfl ?_
      refine n_iconst (v := (1 : Int32)) X dL_law_251 (by decide) ?_
      refine n_iadd X dL_law_252 ?_
      refine n_top (y := nI (i + 1)) (nI_ad i 1 rfl) ?_
      refine n_sld X hX hbl hbA (vp_in_nI (show i + 1 < L by omega) (by omega)) dL_law_253 ?_
      refine n_top (y := xs (i + 1)) (by rw [nI_clamp (show i + 1 < 2 ^ 31 by omega)]) ?_
      refine n_aload_n X dL_law_254 rfl rfl ?_
      refine n_iload_n X dL_law_255 rfl rfl ?_
      refine n_iconst (v := (2 : Int32)) X dL_law_256 (by decide) ?_
      refine n_iadd X dL_law_257 ?_
      refine n_top (y := nI (i + 2)) (nI_ad i 2 rfl) ?_
      refine n_sld X hX hbl hbA (vp_in_nI (show i + 2 < L by omega) (by omega)) dL_law_258 ?_
      refine n_top (y := xs (i + 2)) (by rw [nI_clamp (show i + 2 < 2 ^ 31 by omega)]) ?_
      refine n_callV X (n := 2) ((List.range 14).map (fun i => 85 + i)) 0 (c_X12_standerIs E h2 (fun _ => none) hm) (capR rfl rfl) nd14 (by rw [List.length_map, List.length_range]; rfl) (ws' := (wX E h g μ1 ++ wM E h2 (fun _ => none) ν1)) (putR nd14a nd14 rfl rfl rfl) (wM_0 ..) rfl k_1056 k_1057 k_1058 k_80 k_1059 ⟨rfl, rfl⟩ hdV_X12_standerIs ⟨Nat.le_of_ble_eq_true rfl, Nat.le_of_ble_eq_true rfl⟩ ⟨Nat.le_of_ble_eq_true rfl, Nat.le_of_ble_eq_true rfl⟩ rfl (Nat.le_of_ble_eq_true rfl) rfl dL_law_259 ?_
      refine n_pop X dL_law_262 rfl ?_
      refine n_goto (tgt := 1294) X dL_law_263 (by decide) ?_
      exact tail h g μ1 ν1 rfl hI1
    by_cases n_2 : z = (2 : Int32)
    · refine n_tsI (k := (2 : Int32)) (tgt := 266) X n_2 dL_law_33 (by decide) (by decide) rfl (by decide) ?_
      refine n_aload_n X dL_law_266 rfl rfl ?_
      refine n_aload_n X dL_law_267 rfl rfl ?_
      refine n_iload_n X dL_law_268 rfl rfl ?_
      refine n_iconst (v := (1 : Int32)) X dL_law_269 (by decide) ?_
      refine n_iadd X dL_law_270 ?_
      refine n_top (y := nI (i + 1)) (nI_ad i 1 rfl) ?_
      refine n_sld X hX hbl hbA (vp_in_nI (show i + 1 < L by omega) (by omega)) dL_law_271 ?_
      refine n_top (y := xs (i + 1)) (by rw [nI_clamp (show i + 1 < 2 ^ 31 by omega)]) ?_
      refine n_aload_n X dL_law_272 rfl rfl ?_
      refine n_iload_n X dL_law_273 rfl rfl ?_
      refine n_iconst (v := (2 : Int32)) X dL_law_274 (by decide) ?_
      refine n_iadd X dL_law_275 ?_
      refine n_top (y := nI (i + 2)) (nI_ad i 2 rfl) ?_
      refine n_sld X hX hbl hbA (vp_in_nI (show i + 2 < L by omega) (by omega)) dL_law_276 ?_
      refine n_top (y := xs (i + 2)) (by rw [nI_clamp (show i + 2 < 2 ^ 31 by omega)]) ?_
      obtain ⟨μ1, ν1, r1, r2, hx, hm, hI1⟩ := okL_as hL hI hi6 (xs (i + 1)) (xs (i + 2))
      refine n_callVF X F (n := 2) (List.range 85) 0 (c_X11_as tn tt E h g hx) (capL rfl) nd85 (List.length_range.trans rfl) (ws' := (wX E h g μ1 ++ wM E h2 (fun _ => none) ν)) (putL nd85 rfl rfl) (wX_0 ..) rfl k_442 k_443 k_444 k_68 k_445 ⟨rfl, rfl⟩ hdV_X11_as ⟨Nat.le_of_ble_eq_true rfl, Nat.le_of_ble_eq_true rfl⟩ ⟨Nat.le_of_ble_eq_true rfl, Nat.le_of_ble_eq_true rfl⟩ rfl (Nat.le_of_ble_eq_true rfl) rfl dL_law_277 ?_
      refine n_pop X dL_law_280 rfl ?_
      refine n_aload_n X dL_law_281 rfl rfl ?_
      refine n_aload_n X dL_law_282 rfl rfl ?_
      refine n_iload_n X dL_law_283 rfl rfl ?_
      refine n_iconst (v := (1 : Int32)) X dL_law_284 (by decide) ?_
      refine n_iadd X dL_law_285 ?_
      refine n_top (y := nI (i + 1)) (nI_ad i 1 rfl) ?_
      refine n_sld X hX hbl hbA (vp_in_nI (show i + 1 < L by omega) (by omega)) dL_law_286 ?_
      refine n_top (y := xs (i + 1)) (by rw [nI_clamp (show i + 1 < 2 ^ 31 by omega)]) ?_
      refine n_aload_n X dL_law_287 rfl rfl ?_
      refine n_iload_n X dL_law_288 rfl rfl ?_
      refine n_iconst (v := (2 : Int32)) X dL_law_289 (by decide) ?_
      refine n_iadd X dL_law_290 ?_
      refine n_top (y := nI (i + 2)) (nI_ad i 2 rfl) ?_
      refine n_sld X hX hbl hbA (vp_in_nI (show i + 2 < L by omega) (by omega)) dL_law_291 ?_
      refine n_top (y := xs (i + 2)) (by rw [nI_clamp (show i + 2 < 2 ^ 31 by omega)]) ?_
      refine n_callV X (n := 2) ((List.range 14).map (fun i => 85 + i)) 0 (c_X12_as E h2 (fun _ => none) hm) (capR rfl rfl) nd14 (by rw [List.length_map, List.length_range]; rfl) (ws' := (wX E h g μ1 ++ wM E h2 (fun _ => none) ν1)) (putR nd14a nd14 rfl rfl rfl) (wM_0 ..) rfl k_1082 k_1083 k_1084 k_80 k_1085 ⟨rfl, rfl⟩ hdV_X12_as ⟨Nat.le_of_ble_eq_true rfl, Nat.le_of_ble_eq_true rfl⟩ ⟨Nat.le_of_ble_eq_true rfl, Nat.le_of_ble_eq_true rfl⟩ rfl (Nat.le_of_ble_eq_true rfl) rfl dL_law_292 ?_
      refine n_pop X dL_law_295 rfl ?_
      refine n_goto (tgt := 1294) X dL_law_296 (by decide) ?_
      exact tail h g μ1 ν1 rfl hI1
    by_cases n_3 : z = (3 : Int32)
    · refine n_tsI (k := (3 : Int32)) (tgt := 299) X n_3 dL_law_33 (by decide) (by decide) rfl (by decide) ?_
      refine n_aload_n X dL_law_299 rfl rfl ?_
      refine n_aload_n X dL_law_300 rfl rfl ?_
      refine n_iload_n X dL_law_301 rfl rfl ?_
      refine n_iconst (v := (1 : Int32)) X dL_law_302 (by decide) ?_
      refine n_iadd X dL_law_303 ?_
      refine n_top (y := nI (i + 1)) (nI_ad i 1 rfl) ?_
      refine n_sld X hX hbl hbA (vp_in_nI (show i + 1 < L by omega) (by omega)) dL_law_304 ?_
      refine n_top (y := xs (i + 1)) (by rw [nI_clamp (show i + 1 < 2 ^ 31 by omega)]) ?_
      refine n_aload_n X dL_law_305 rfl rfl ?_
      refine n_iload_n X dL_law_306 rfl rfl ?_
      refine n_iconst (v := (2 : Int32)) X dL_law_307 (by decide) ?_
      refine n_iadd X dL_law_308 ?_
      refine n_top (y := nI (i + 2)) (nI_ad i 2 rfl) ?_
      refine n_sld X hX hbl hbA (vp_in_nI (show i + 2 < L by omega) (by omega)) dL_law_309 ?_
      refine n_top (y := xs (i + 2)) (by rw [nI_clamp (show i + 2 < 2 ^ 31 by omega)]) ?_
      obtain ⟨μ1, ν1, r1, r2, hx, hm, hI1⟩ := okL_patience hL hI hi6 (xs (i + 1)) (xs (i + 2))
      refine n_callV X (n := 2) (List.range 85) 0 (c_X11_patience E h g hx) (capL rfl) nd85 (List.length_range.trans rfl) (ws' := (wX E h g μ1 ++ wM E h2 (fun _ => none) ν)) (putL nd85 rfl rfl) (wX_0 ..) rfl k_450 k_451 k_452 k_68 k_453 ⟨rfl, rfl⟩ hdV_X11_patience ⟨Nat.le_of_ble_eq_true rfl, Nat.le_of_ble_eq_true rfl⟩ ⟨Nat.le_of_ble_eq_true rfl, Nat.le_of_ble_eq_true rfl⟩ rfl (Nat.le_of_ble_eq_true rfl) rfl dL_law_310 ?_
      refine n_pop X dL_law_313 rfl ?_
      refine n_aload_n X dL_law_314 rfl rfl ?_
      refine n_aload_n X dL_law_315 rfl rfl ?_
      refine n_iload_n X dL_law_316 rfl rfl ?_
      refine n_iconst (v := (1 : Int32)) X dL_law_317 (by decide) ?_
      refine n_iadd X dL_law_318 ?_
      refine n_top (y := nI (i + 1)) (nI_ad i 1 rfl) ?_
      refine n_sld X hX hbl hbA (vp_in_nI (show i + 1 < L by omega) (by omega)) dL_law_319 ?_
      refine n_top (y := xs (i + 1)) (by rw [nI_clamp (show i + 1 < 2 ^ 31 by omega)]) ?_
      refine n_aload_n X dL_law_320 rfl rfl ?_
      refine n_iload_n X dL_law_321 rfl rfl ?_
      refine n_iconst (v := (2 : Int32)) X dL_law_322 (by decide) ?_
      refine n_iadd X dL_law_323 ?_
      refine n_top (y := nI (i + 2)) (nI_ad i 2 rfl) ?_
      refine n_sld X hX hbl hbA (vp_in_nI (show i + 2 < L by omega) (by omega)) dL_law_324 ?_
      refine n_top (y := xs (i + 2)) (by rw [nI_clamp (show i + 2 < 2 ^ 31 by omega)]) ?_
      refine n_callV X (n := 2) ((List.range 14).map (fun i => 85 + i)) 0 (c_X12_patience E h2 (fun _ => none) hm) (capR rfl rfl) nd14 (by rw [List.length_map, List.length_range]; rfl) (ws' := (wX E h g μ1 ++ wM E h2 (fun _ => none) ν1)) (putR nd14a nd14 rfl rfl rfl) (wM_0 ..) rfl k_1089 k_1090 k_1091 k_80 k_1092 ⟨rfl, rfl⟩ hdV_X12_patience ⟨Nat.le_of_ble_eq_true rfl, Nat.le_of_ble_eq_true rfl⟩ ⟨Nat.le_of_ble_eq_true rfl, Nat.le_of_ble_eq_true rfl⟩ rfl (Nat.le_of_ble_eq_true rfl) rfl dL_law_325 ?_
      refine n_pop X dL_law_328 rfl ?_
      refine n_goto (tgt := 1294) X dL_law_329 (by decide) ?_
      exact tail h g μ1 ν1 rfl hI1
    by_cases n_4 : z = (4 : Int32)
    · refine n_tsI (k := (4 : Int32)) (tgt := 332) X n_4 dL_law_33 (by decide) (by decide) rfl (by decide) ?_
      refine n_aload_n X dL_law_332 rfl rfl ?_
      refine n_aload_n X dL_law_333 rfl rfl ?_
      refine n_iload_n X dL_law_334 rfl rfl ?_
      refine n_iconst (v := (1 : Int32)) X dL_law_335 (by decide) ?_
      refine n_iadd X dL_law_336 ?_
      refine n_top (y := nI (i + 1)) (nI_ad i 1 rfl) ?_
      refine n_sld X hX hbl hbA (vp_in_nI (show i + 1 < L by omega) (by omega)) dL_law_337 ?_
      refine n_top (y := xs (i + 1)) (by rw [nI_clamp (show i + 1 < 2 ^ 31 by omega)]) ?_
      refine n_aload_n X dL_law_338 rfl rfl ?_
      refine n_iload_n X dL_law_339 rfl rfl ?_
      refine n_iconst (v := (2 : Int32)) X dL_law_340 (by decide) ?_
      refine n_iadd X dL_law_341 ?_
      refine n_top (y := nI (i + 2)) (nI_ad i 2 rfl) ?_
      refine n_sld X hX hbl hbA (vp_in_nI (show i + 2 < L by omega) (by omega)) dL_law_342 ?_
      refine n_top (y := xs (i + 2)) (by rw [nI_clamp (show i + 2 < 2 ^ 31 by omega)]) ?_
      obtain ⟨μ1, ν1, r1, r2, hx, hm, hI1⟩ := okL_swap hL hI hi6 (xs (i + 1)) (xs (i + 2))
      refine n_callV X (n := 2) (List.range 85) 0 (c_X11_swap E h g hx) (capL rfl) nd85 (List.length_range.trans rfl) (ws' := (wX E h g μ1 ++ wM E h2 (fun _ => none) ν)) (putL nd85 rfl rfl) (wX_0 ..) rfl k_480 k_481 k_482 k_68 k_483 ⟨rfl, rfl⟩ hdV_X11_swap ⟨Nat.le_of_ble_eq_true rfl, Nat.le_of_ble_eq_true rfl⟩ ⟨Nat.le_of_ble_eq_true rfl, Nat.le_of_ble_eq_true rfl⟩ rfl (Nat.le_of_ble_eq_true rfl) rfl dL_law_343 ?_
      refine n_pop X dL_law_346 rfl ?_
      refine n_aload_n X dL_law_347 rfl rfl ?_
      refine n_aload_n X dL_law_348 rfl rfl ?_
      refine n_iload_n X dL_law_349 rfl rfl ?_
      refine n_iconst (v := (1 : Int32)) X dL_law_350 (by decide) ?_
      refine n_iadd X dL_law_351 ?_
      refine n_top (y := nI (i + 1)) (nI_ad i 1 rfl) ?_
      refine n_sld X hX hbl hbA (vp_in_nI (show i + 1 < L by omega) (by omega)) dL_law_352 ?_
      refine n_top (y := xs (i + 1)) (by rw [nI_clamp (show i + 1 < 2 ^ 31 by omega)]) ?_
      refine n_aload_n X dL_law_353 rfl rfl ?_
      refine n_iload_n X dL_law_354 rfl rfl ?_
      refine n_iconst (v := (2 : Int32)) X dL_law_355 (by decide) ?_
      refine n_iadd X dL_law_356 ?_
      refine n_top (y := nI (i + 2)) (nI_ad i 2 rfl) ?_
      refine n_sld X hX hbl hbA (vp_in_nI (show i + 2 < L by omega) (by omega)) dL_law_357 ?_
      refine n_top (y := xs (i + 2)) (by rw [nI_clamp (show i + 2 < 2 ^ 31 by omega)]) ?_
      refine n_callV X (n := 2) ((List.range 14).map (fun i => 85 + i)) 0 (c_X12_swap E h2 (fun _ => none) hm) (capR rfl rfl) nd14 (by rw [List.length_map, List.length_range]; rfl) (ws' := (wX E h g μ1 ++ wM E h2 (fun _ => none) ν1)) (putR nd14a nd14 rfl rfl rfl) (wM_0 ..) rfl k_1113 k_1114 k_1115 k_80 k_1116 ⟨rfl, rfl⟩ hdV_X12_swap ⟨Nat.le_of_ble_eq_true rfl, Nat.le_of_ble_eq_true rfl⟩ ⟨Nat.le_of_ble_eq_true rfl, Nat.le_of_ble_eq_true rfl⟩ rfl (Nat.le_of_ble_eq_true rfl) rfl dL_law_358 ?_
      refine n_pop X dL_law_361 rfl ?_
      refine n_goto (tgt := 1294) X dL_law_362 (by decide) ?_
      exact tail h g μ1 ν1 rfl hI1
    by_cases n_5 : z = (5 : Int32)
    · refine n_tsI (k := (5 : Int32)) (tgt := 365) X n_5 dL_law_33 (by decide) (by decide) rfl (by decide) ?_
      refine n_aload_n X dL_law_365 rfl rfl ?_
      refine n_aload_n X dL_law_366 rfl rfl ?_
      refine n_iload_n X dL_law_367 rfl rfl ?_
      refine n_iconst (v := (1 : Int32)) X dL_law_368 (by decide) ?_
      refine n_iadd X dL_law_369 ?_
      refine n_top (y := nI (i + 1)) (nI_ad i 1 rfl) ?_
      refine n_sld X hX hbl hbA (vp_in_nI (show i + 1 < L by omega) (by omega)) dL_law_370 ?_
      refine n_top (y := xs (i + 1)) (by rw [nI_clamp (show i + 1 < 2 ^ 31 by omega)]) ?_
      refine n_aload_n X dL_law_371 rfl rfl ?_
      refine n_iload_n X dL_law_372 rfl rfl ?_
      refine n_iconst (v := (2 : Int32)) X dL_law_373 (by decide) ?_
      refine n_iadd X dL_law_374 ?_
      refine n_top (y := nI (i + 2)) (nI_ad i 2 rfl) ?_
      refine n_sld X hX hbl hbA (vp_in_nI (show i + 2 < L by omega) (by omega)) dL_law_375 ?_
      refine n_top (y := xs (i + 2)) (by rw [nI_clamp (show i + 2 < 2 ^ 31 by omega)]) ?_
      obtain ⟨μ1, ν1, r1, r2, hx, hm, hI1⟩ := okL_again hL hI hi6 (xs (i + 1)) (xs (i + 2))
      refine n_callV X (n := 2) (List.range 85) 0 (c_X11_again E h g hx) (capL rfl) nd85 (List.length_range.trans rfl) (ws' := (wX E h g μ1 ++ wM E h2 (fun _ => none) ν)) (putL nd85 rfl rfl) (wX_0 ..) rfl k_488 k_489 k_490 k_68 k_491 ⟨rfl, rfl⟩ hdV_X11_again ⟨Nat.le_of_ble_eq_true rfl, Nat.le_of_ble_eq_true rfl⟩ ⟨Nat.le_of_ble_eq_true rfl, Nat.le_of_ble_eq_true rfl⟩ rfl (Nat.le_of_ble_eq_true rfl) rfl dL_law_376 ?_
      refine n_pop X dL_law_379 rfl ?_
      refine n_aload_n X dL_law_380 rfl rfl ?_
      refine n_aload_n X dL_law_381 rfl rfl ?_
      refine n_iload_n X dL_law_382 rfl rfl ?_
      refine n_iconst (v := (1 : Int32)) X dL_law_383 (by decide) ?_
      refine n_iadd X dL_law_384 ?_
      refine n_top (y := nI (i + 1)) (nI_ad i 1 rfl) ?_
      refine n_sld X hX hbl hbA (vp_in_nI (show i + 1 < L by omega) (by omega)) dL_law_385 ?_
      refine n_top (y := xs (i + 1)) (by rw [nI_clamp (show i + 1 < 2 ^ 31 by omega)]) ?_
      refine n_aload_n X dL_law_386 rfl rfl ?_
      refine n_iload_n X dL_law_387 rfl rfl ?_
      refine n_iconst (v := (2 : Int32)) X dL_law_388 (by decide) ?_
      refine n_iadd X dL_law_389 ?_
      refine n_top (y := nI (i + 2)) (nI_ad i 2 rfl) ?_
      refine n_sld X hX hbl hbA (vp_in_nI (show i + 2 < L by omega) (by omega)) dL_law_390 ?_
      refine n_top (y := xs (i + 2)) (by rw [nI_clamp (show i + 2 < 2 ^ 31 by omega)]) ?_
      refine n_callV X (n := 2) ((List.range 14).map (fun i => 85 + i)) 0 (c_X12_again E h2 (fun _ => none) hm) (capR rfl rfl) nd14 (by rw [List.length_map, List.length_range]; rfl) (ws' := (wX E h g μ1 ++ wM E h2 (fun _ => none) ν1)) (putR nd14a nd14 rfl rfl rfl) (wM_0 ..) rfl k_1121 k_1122 k_1123 k_80 k_1124 ⟨rfl, rfl⟩ hdV_X12_again ⟨Nat.le_of_ble_eq_true rfl, Nat.le_of_ble_eq_true rfl⟩ ⟨Nat.le_of_ble_eq_true rfl, Nat.le_of_ble_eq_true rfl⟩ rfl (Nat.le_of_ble_eq_true rfl) rfl dL_law_391 ?_
      refine n_pop X dL_law_394 rfl ?_
      refine n_goto (tgt := 1294) X dL_law_395 (by decide) ?_
      exact tail h g μ1 ν1 rfl hI1
    by_cases n_6 : z = (6 : Int32)
    · refine n_tsI (k := (6 : Int32)) (tgt := 398) X n_6 dL_law_33 (by decide) (by decide) rfl (by decide) ?_
      refine n_aload_n X dL_law_398 rfl rfl ?_
      refine n_aload_n X dL_law_399 rfl rfl ?_
      refine n_iload_n X dL_law_400 rfl rfl ?_
      refine n_iconst (v := (1 : Int32)) X dL_law_401 (by decide) ?_
      refine n_iadd X dL_law_402 ?_
      refine n_top (y := nI (i + 1)) (nI_ad i 1 rfl) ?_
      refine n_sld X hX hbl hbA (vp_in_nI (show i + 1 < L by omega) (by omega)) dL_law_403 ?_
      refine n_top (y := xs (i + 1)) (by rw [nI_clamp (show i + 1 < 2 ^ 31 by omega)]) ?_
      obtain ⟨μ1, ν1, r1, r2, hx, hm, hI1⟩ := okL_sun hL hI hi6 (xs (i + 1))
      refine n_callV X (n := 1) (List.range 85) 0 (c_X11_sun E h g hx) (capL rfl) nd85 (List.length_range.trans rfl) (ws' := (wX E h g μ1 ++ wM E h2 (fun _ => none) ν)) (putL nd85 rfl rfl) (wX_0 ..) rfl k_492 k_493 k_494 k_68 k_495 ⟨rfl, rfl⟩ hdV_X11_sun ⟨Nat.le_of_ble_eq_true rfl, Nat.le_of_ble_eq_true rfl⟩ ⟨Nat.le_of_ble_eq_true rfl, Nat.le_of_ble_eq_true rfl⟩ rfl (Nat.le_of_ble_eq_true rfl) rfl dL_law_404 ?_
      refine n_pop X dL_law_407 rfl ?_
      refine n_aload_n X dL_law_408 rfl rfl ?_
      refine n_aload_n X dL_law_409 rfl rfl ?_
      refine n_iload_n X dL_law_410 rfl rfl ?_
      refine n_iconst (v := (1 : Int32)) X dL_law_411 (by decide) ?_
      refine n_iadd X dL_law_412 ?_
      refine n_top (y := nI (i + 1)) (nI_ad i 1 rfl) ?_
      refine n_sld X hX hbl hbA (vp_in_nI (show i + 1 < L by omega) (by omega)) dL_law_413 ?_
      refine n_top (y := xs (i + 1)) (by rw [nI_clamp (show i + 1 < 2 ^ 31 by omega)]) ?_
      refine n_callV X (n := 1) ((List.range 14).map (fun i => 85 + i)) 0 (c_X12_sun E h2 (fun _ => none) hm) (capR rfl rfl) nd14 (by rw [List.length_map, List.length_range]; rfl) (ws' := (wX E h g μ1 ++ wM E h2 (fun _ => none) ν1)) (putR nd14a nd14 rfl rfl rfl) (wM_0 ..) rfl k_1125 k_1126 k_1127 k_80 k_1128 ⟨rfl, rfl⟩ hdV_X12_sun ⟨Nat.le_of_ble_eq_true rfl, Nat.le_of_ble_eq_true rfl⟩ ⟨Nat.le_of_ble_eq_true rfl, Nat.le_of_ble_eq_true rfl⟩ rfl (Nat.le_of_ble_eq_true rfl) rfl dL_law_414 ?_
      refine n_pop X dL_law_417 rfl ?_
      refine n_goto (tgt := 1294) X dL_law_418 (by decide) ?_
      exact tail h g μ1 ν1 rfl hI1
    by_cases n_7 : z = (7 : Int32)
    · refine n_tsI (k := (7 : Int32)) (tgt := 421) X n_7 dL_law_33 (by decide) (by decide) rfl (by decide) ?_
      refine n_aload_n X dL_law_421 rfl rfl ?_
      refine n_aload_n X dL_law_422 rfl rfl ?_
      refine n_iload_n X dL_law_423 rfl rfl ?_
      refine n_iconst (v := (1 : Int32)) X dL_law_424 (by decide) ?_
      refine n_iadd X dL_law_425 ?_
      refine n_top (y := nI (i + 1)) (nI_ad i 1 rfl) ?_
      refine n_sld X hX hbl hbA (vp_in_nI (show i + 1 < L by omega) (by omega)) dL_law_426 ?_
      refine n_top (y := xs (i + 1)) (by rw [nI_clamp (show i + 1 < 2 ^ 31 by omega)]) ?_
      obtain ⟨μ1, ν1, r1, r2, hx, hm, hI1⟩ := okL_at hL hI hi6 (xs (i + 1))
      refine n_callV X (n := 1) (List.range 85) 0 (c_X11_at E h g hx) (capL rfl) nd85 (List.length_range.trans rfl) (ws' := (wX E h g μ1 ++ wM E h2 (fun _ => none) ν)) (putL nd85 rfl rfl) (wX_0 ..) rfl k_496 k_497 k_498 k_68 k_499 ⟨rfl, rfl⟩ hdV_X11_at ⟨Nat.le_of_ble_eq_true rfl, Nat.le_of_ble_eq_true rfl⟩ ⟨Nat.le_of_ble_eq_true rfl, Nat.le_of_ble_eq_true rfl⟩ rfl (Nat.le_of_ble_eq_true rfl) rfl dL_law_427 ?_
      refine n_pop X dL_law_430 rfl ?_
      refine n_aload_n X dL_law_431 rfl rfl ?_
      refine n_aload_n X dL_law_432 rfl rfl ?_
      refine n_iload_n X dL_law_433 rfl rfl ?_
      refine n_iconst (v := (1 : Int32)) X dL_law_434 (by decide) ?_
      refine n_iadd X dL_law_435 ?_
      refine n_top (y := nI (i + 1)) (nI_ad i 1 rfl) ?_
      refine n_sld X hX hbl hbA (vp_in_nI (show i + 1 < L by omega) (by omega)) dL_law_436 ?_
      refine n_top (y := xs (i + 1)) (by rw [nI_clamp (show i + 1 < 2 ^ 31 by omega)]) ?_
      refine n_callV X (n := 1) ((List.range 14).map (fun i => 85 + i)) 0 (c_X12_at E h2 (fun _ => none) hm) (capR rfl rfl) nd14 (by rw [List.length_map, List.length_range]; rfl) (ws' := (wX E h g μ1 ++ wM E h2 (fun _ => none) ν1)) (putR nd14a nd14 rfl rfl rfl) (wM_0 ..) rfl k_1133 k_1134 k_1135 k_80 k_1136 ⟨rfl, rfl⟩ hdV_X12_at ⟨Nat.le_of_ble_eq_true rfl, Nat.le_of_ble_eq_true rfl⟩ ⟨Nat.le_of_ble_eq_true rfl, Nat.le_of_ble_eq_true rfl⟩ rfl (Nat.le_of_ble_eq_true rfl) rfl dL_law_437 ?_
      refine n_pop X dL_law_440 rfl ?_
      refine n_goto (tgt := 1294) X dL_law_441 (by decide) ?_
      exact tail h g μ1 ν1 rfl hI1
    by_cases n_8 : z = (8 : Int32)
    · refine n_tsI (k := (8 : Int32)) (tgt := 444) X n_8 dL_law_33 (by decide) (by decide) rfl (by decide) ?_
      refine n_aload_n X dL_law_444 rfl rfl ?_
      refine n_aload_n X dL_law_445 rfl rfl ?_
      refine n_iload_n X dL_law_446 rfl rfl ?_
      refine n_iconst (v := (1 : Int32)) X dL_law_447 (by decide) ?_
      refine n_iadd X dL_law_448 ?_
      refine n_top (y := nI (i + 1)) (nI_ad i 1 rfl) ?_
      refine n_sld X hX hbl hbA (vp_in_nI (show i + 1 < L by omega) (by omega)) dL_law_449 ?_
      refine n_top (y := xs (i + 1)) (by rw [nI_clamp (show i + 1 < 2 ^ 31 by omega)]) ?_
      refine n_i2l X dL_law_450 ?_
      refine n_bipush (v := (32 : Int32)) X dL_law_451 (by decide) ?_
      refine n_lshl X dL_law_453 ?_
      refine n_aload_n X dL_law_454 rfl rfl ?_
      refine n_iload_n X dL_law_455 rfl rfl ?_
      refine n_iconst (v := (2 : Int32)) X dL_law_456 (by decide) ?_
      refine n_iadd X dL_law_457 ?_
      refine n_top (y := nI (i + 2)) (nI_ad i 2 rfl) ?_
      refine n_sld X hX hbl hbA (vp_in_nI (show i + 2 < L by omega) (by omega)) dL_law_458 ?_
      refine n_top (y := xs (i + 2)) (by rw [nI_clamp (show i + 2 < 2 ^ 31 by omega)]) ?_
      refine n_i2l X dL_law_459 ?_
      refine n_ldc2 X k_1337 dL_law_460 ?_
      refine n_land X dL_law_463 ?_
      refine n_lor X dL_law_464 ?_
      refine n_aload_n X dL_law_465 rfl rfl ?_
      refine n_iload_n X dL_law_466 rfl rfl ?_
      refine n_iconst (v := (3 : Int32)) X dL_law_467 (by decide) ?_
      refine n_iadd X dL_law_468 ?_
      refine n_top (y := nI (i + 3)) (nI_ad i 3 rfl) ?_
      refine n_sld X hX hbl hbA (vp_in_nI (show i + 3 < L by omega) (by omega)) dL_law_469 ?_
      refine n_top (y := xs (i + 3)) (by rw [nI_clamp (show i + 3 < 2 ^ 31 by omega)]) ?_
      obtain ⟨μ1, ν1, r1, r2, hx, hm, hI1⟩ := okL_feed hL hI hi6 ((lshl ((xs (i + 1)).toInt64) (32 : Int32)) ||| ((xs (i + 2)).toInt64 &&& (4294967295 : Int64))) (xs (i + 3))
      refine n_callV X (n := 2) (List.range 85) 0 (c_X11_feed E h g hx) (capL rfl) nd85 (List.length_range.trans rfl) (ws' := (wX E h g μ1 ++ wM E h2 (fun _ => none) ν)) (putL nd85 rfl rfl) (wX_0 ..) rfl k_507 k_508 k_509 k_68 k_510 ⟨rfl, rfl⟩ hdV_X11_feed ⟨Nat.le_of_ble_eq_true rfl, Nat.le_of_ble_eq_true rfl⟩ ⟨Nat.le_of_ble_eq_true rfl, Nat.le_of_ble_eq_true rfl⟩ rfl (Nat.le_of_ble_eq_true rfl) rfl dL_law_470 ?_
      refine n_pop X dL_law_473 rfl ?_
      refine n_aload_n X dL_law_474 rfl rfl ?_
      refine n_aload_n X dL_law_475 rfl rfl ?_
      refine n_iload_n X dL_law_476 rfl rfl ?_
      refine n_iconst (v := (1 : Int32)) X dL_law_477 (by decide) ?_
      refine n_iadd X dL_law_478 ?_
      refine n_top (y := nI (i + 1)) (nI_ad i 1 rfl) ?_
      refine n_sld X hX hbl hbA (vp_in_nI (show i + 1 < L by omega) (by omega)) dL_law_479 ?_
      refine n_top (y := xs (i + 1)) (by rw [nI_clamp (show i + 1 < 2 ^ 31 by omega)]) ?_
      refine n_i2l X dL_law_480 ?_
      refine n_bipush (v := (32 : Int32)) X dL_law_481 (by decide) ?_
      refine n_lshl X dL_law_483 ?_
      refine n_aload_n X dL_law_484 rfl rfl ?_
      refine n_iload_n X dL_law_485 rfl rfl ?_
      refine n_iconst (v := (2 : Int32)) X dL_law_486 (by decide) ?_
      refine n_iadd X dL_law_487 ?_
      refine n_top (y := nI (i + 2)) (nI_ad i 2 rfl) ?_
      refine n_sld X hX hbl hbA (vp_in_nI (show i + 2 < L by omega) (by omega)) dL_law_488 ?_
      refine n_top (y := xs (i + 2)) (by rw [nI_clamp (show i + 2 < 2 ^ 31 by omega)]) ?_
      refine n_i2l X dL_law_489 ?_
      refine n_ldc2 X k_1337 dL_law_490 ?_
      refine n_land X dL_law_493 ?_
      refine n_lor X dL_law_494 ?_
      refine n_aload_n X dL_law_495 rfl rfl ?_
      refine n_iload_n X dL_law_496 rfl rfl ?_
      refine n_iconst (v := (3 : Int32)) X dL_law_497 (by decide) ?_
      refine n_iadd X dL_law_498 ?_
      refine n_top (y := nI (i + 3)) (nI_ad i 3 rfl) ?_
      refine n_sld X hX hbl hbA (vp_in_nI (show i + 3 < L by omega) (by omega)) dL_law_499 ?_
      refine n_top (y := xs (i + 3)) (by rw [nI_clamp (show i + 3 < 2 ^ 31 by omega)]) ?_
      refine n_callV X (n := 2) ((List.range 14).map (fun i => 85 + i)) 0 (c_X12_feed E h2 (fun _ => none) hm) (capR rfl rfl) nd14 (by rw [List.length_map, List.length_range]; rfl) (ws' := (wX E h g μ1 ++ wM E h2 (fun _ => none) ν1)) (putR nd14a nd14 rfl rfl rfl) (wM_0 ..) rfl k_980 k_981 k_982 k_80 k_983 ⟨rfl, rfl⟩ hdV_X12_feed ⟨Nat.le_of_ble_eq_true rfl, Nat.le_of_ble_eq_true rfl⟩ ⟨Nat.le_of_ble_eq_true rfl, Nat.le_of_ble_eq_true rfl⟩ rfl (Nat.le_of_ble_eq_true rfl) rfl dL_law_500 ?_
      refine n_pop X dL_law_503 rfl ?_
      refine n_goto (tgt := 1294) X dL_law_504 (by decide) ?_
      exact tail h g μ1 ν1 rfl hI1
    by_cases n_9 : z = (9 : Int32)
    · refine n_tsI (k := (9 : Int32)) (tgt := 507) X n_9 dL_law_33 (by decide) (by decide) rfl (by decide) ?_
      refine n_aload_n X dL_law_507 rfl rfl ?_
      refine n_aload_n X dL_law_508 rfl rfl ?_
      refine n_iload_n X dL_law_509 rfl rfl ?_
      refine n_iconst (v := (1 : Int32)) X dL_law_510 (by decide) ?_
      refine n_iadd X dL_law_511 ?_
      refine n_top (y := nI (i + 1)) (nI_ad i 1 rfl) ?_
      refine n_sld X hX hbl hbA (vp_in_nI (show i + 1 < L by omega) (by omega)) dL_law_512 ?_
      refine n_top (y := xs (i + 1)) (by rw [nI_clamp (show i + 1 < 2 ^ 31 by omega)]) ?_
      obtain ⟨μ1, ν1, r1, r2, k1, hx, hm, hI1⟩ := okL_text hL hI hi6 (xs (i + 1))
      refine n_callV X (n := 1) (List.range 85) 0 (c_X11_text E h g hx) (capL rfl) nd85 (List.length_range.trans rfl) (ws' := (wX E (hOf k1 h) (gOf k1 h g) μ1 ++ wM E h2 (fun _ => none) ν)) (putL nd85 rfl rfl) (wX_0 ..) rfl k_511 k_512 k_513 k_68 k_514 ⟨rfl, rfl⟩ hdV_X11_text ⟨Nat.le_of_ble_eq_true rfl, Nat.le_of_ble_eq_true rfl⟩ ⟨Nat.le_of_ble_eq_true rfl, Nat.le_of_ble_eq_true rfl⟩ rfl (Nat.le_of_ble_eq_true rfl) rfl dL_law_513 ?_
      refine n_pop X dL_law_516 rfl ?_
      refine n_aload_n X dL_law_517 rfl rfl ?_
      refine n_aload_n X dL_law_518 rfl rfl ?_
      refine n_iload_n X dL_law_519 rfl rfl ?_
      refine n_iconst (v := (1 : Int32)) X dL_law_520 (by decide) ?_
      refine n_iadd X dL_law_521 ?_
      refine n_top (y := nI (i + 1)) (nI_ad i 1 rfl) ?_
      refine n_sld X hX hbl hbA (vp_in_nI (show i + 1 < L by omega) (by omega)) dL_law_522 ?_
      refine n_top (y := xs (i + 1)) (by rw [nI_clamp (show i + 1 < 2 ^ 31 by omega)]) ?_
      refine n_callV X (n := 1) ((List.range 14).map (fun i => 85 + i)) 0 (c_X12_text E h2 (fun _ => none) hm) (capR rfl rfl) nd14 (by rw [List.length_map, List.length_range]; rfl) (ws' := (wX E (hOf k1 h) (gOf k1 h g) μ1 ++ wM E h2 (fun _ => none) ν1)) (putR nd14a nd14 rfl rfl rfl) (wM_0 ..) rfl k_993 k_994 k_995 k_80 k_996 ⟨rfl, rfl⟩ hdV_X12_text ⟨Nat.le_of_ble_eq_true rfl, Nat.le_of_ble_eq_true rfl⟩ ⟨Nat.le_of_ble_eq_true rfl, Nat.le_of_ble_eq_true rfl⟩ rfl (Nat.le_of_ble_eq_true rfl) rfl dL_law_523 ?_
      refine n_pop X dL_law_526 rfl ?_
      refine n_goto (tgt := 1294) X dL_law_527 (by decide) ?_
      exact tail (hOf k1 h) (gOf k1 h g) μ1 ν1 (hOf0 k1 h) hI1
    by_cases n_10 : z = (10 : Int32)
    · refine n_tsI (k := (10 : Int32)) (tgt := 530) X n_10 dL_law_33 (by decide) (by decide) rfl (by decide) ?_
      refine n_aload_n X dL_law_530 rfl rfl ?_
      refine n_aload_n X dL_law_531 rfl rfl ?_
      refine n_iload_n X dL_law_532 rfl rfl ?_
      refine n_iconst (v := (1 : Int32)) X dL_law_533 (by decide) ?_
      refine n_iadd X dL_law_534 ?_
      refine n_top (y := nI (i + 1)) (nI_ad i 1 rfl) ?_
      refine n_sld X hX hbl hbA (vp_in_nI (show i + 1 < L by omega) (by omega)) dL_law_535 ?_
      refine n_top (y := xs (i + 1)) (by rw [nI_clamp (show i + 1 < 2 ^ 31 by omega)]) ?_
      obtain ⟨μ1, ν1, r1, r2, hx, hm, hI1⟩ := okL_untell hL hI hi6 (xs (i + 1))
      refine n_callV X (n := 1) (List.range 85) 0 (c_X11_untell E h g hx) (capL rfl) nd85 (List.length_range.trans rfl) (ws' := (wX E h g μ1 ++ wM E h2 (fun _ => none) ν)) (putL nd85 rfl rfl) (wX_0 ..) rfl k_576 k_577 k_578 k_68 k_579 ⟨rfl, rfl⟩ hdV_X11_untell ⟨Nat.le_of_ble_eq_true rfl, Nat.le_of_ble_eq_true rfl⟩ ⟨Nat.le_of_ble_eq_true rfl, Nat.le_of_ble_eq_true rfl⟩ rfl (Nat.le_of_ble_eq_true rfl) rfl dL_law_536 ?_
      refine n_pop X dL_law_539 rfl ?_
      refine n_aload_n X dL_law_540 rfl rfl ?_
      refine n_aload_n X dL_law_541 rfl rfl ?_
      refine n_iload_n X dL_law_542 rfl rfl ?_
      refine n_iconst (v := (1 : Int32)) X dL_law_543 (by decide) ?_
      refine n_iadd X dL_law_544 ?_
      refine n_top (y := nI (i + 1)) (nI_ad i 1 rfl) ?_
      refine n_sld X hX hbl hbA (vp_in_nI (show i + 1 < L by omega) (by omega)) dL_law_545 ?_
      refine n_top (y := xs (i + 1)) (by rw [nI_clamp (show i + 1 < 2 ^ 31 by omega)]) ?_
      refine n_callV X (n := 1) ((List.range 14).map (fun i => 85 + i)) 0 (c_X12_untell E h2 (fun _ => none) hm) (capR rfl rfl) nd14 (by rw [List.length_map, List.length_range]; rfl) (ws' := (wX E h g μ1 ++ wM E h2 (fun _ => none) ν1)) (putR nd14a nd14 rfl rfl rfl) (wM_0 ..) rfl k_1037 k_1038 k_1039 k_80 k_1040 ⟨rfl, rfl⟩ hdV_X12_untell ⟨Nat.le_of_ble_eq_true rfl, Nat.le_of_ble_eq_true rfl⟩ ⟨Nat.le_of_ble_eq_true rfl, Nat.le_of_ble_eq_true rfl⟩ rfl (Nat.le_of_ble_eq_true rfl) rfl dL_law_546 ?_
      refine n_pop X dL_law_549 rfl ?_
      refine n_goto (tgt := 1294) X dL_law_550 (by decide) ?_
      exact tail h g μ1 ν1 rfl hI1
    by_cases n_11 : z = (11 : Int32)
    · refine n_tsI (k := (11 : Int32)) (tgt := 553) X n_11 dL_law_33 (by decide) (by decide) rfl (by decide) ?_
      refine n_aload_n X dL_law_553 rfl rfl ?_
      refine n_aload_n X dL_law_554 rfl rfl ?_
      refine n_iload_n X dL_law_555 rfl rfl ?_
      refine n_iconst (v := (1 : Int32)) X dL_law_556 (by decide) ?_
      refine n_iadd X dL_law_557 ?_
      refine n_top (y := nI (i + 1)) (nI_ad i 1 rfl) ?_
      refine n_sld X hX hbl hbA (vp_in_nI (show i + 1 < L by omega) (by omega)) dL_law_558 ?_
      refine n_top (y := xs (i + 1)) (by rw [nI_clamp (show i + 1 < 2 ^ 31 by omega)]) ?_
      obtain ⟨μ1, ν1, r1, r2, hx, hm, hI1⟩ := okL_minutes hL hI hi6 (xs (i + 1))
      refine n_callV X (n := 1) (List.range 85) 0 (c_X11_minutes E h g hx) (capL rfl) nd85 (List.length_range.trans rfl) (ws' := (wX E h g μ1 ++ wM E h2 (fun _ => none) ν)) (putL nd85 rfl rfl) (wX_0 ..) rfl k_585 k_586 k_587 k_68 k_588 ⟨rfl, rfl⟩ hdV_X11_minutes ⟨Nat.le_of_ble_eq_true rfl, Nat.le_of_ble_eq_true rfl⟩ ⟨Nat.le_of_ble_eq_true rfl, Nat.le_of_ble_eq_true rfl⟩ rfl (Nat.le_of_ble_eq_true rfl) rfl dL_law_559 ?_
      refine n_pop X dL_law_562 rfl ?_
      refine n_aload_n X dL_law_563 rfl rfl ?_
      refine n_aload_n X dL_law_564 rfl rfl ?_
      refine n_iload_n X dL_law_565 rfl rfl ?_
      refine n_iconst (v := (1 : Int32)) X dL_law_566 (by decide) ?_
      refine n_iadd X dL_law_567 ?_
      refine n_top (y := nI (i + 1)) (nI_ad i 1 rfl) ?_
      refine n_sld X hX hbl hbA (vp_in_nI (show i + 1 < L by omega) (by omega)) dL_law_568 ?_
      refine n_top (y := xs (i + 1)) (by rw [nI_clamp (show i + 1 < 2 ^ 31 by omega)]) ?_
      refine n_callV X (n := 1) ((List.range 14).map (fun i => 85 + i)) 0 (c_X12_minutes E h2 (fun _ => none) hm) (capR rfl rfl) nd14 (by rw [List.length_map, List.length_range]; rfl) (ws' := (wX E h g μ1 ++ wM E h2 (fun _ => none) ν1)) (putR nd14a nd14 rfl rfl rfl) (wM_0 ..) rfl k_1141 k_1142 k_1143 k_80 k_1144 ⟨rfl, rfl⟩ hdV_X12_minutes ⟨Nat.le_of_ble_eq_true rfl, Nat.le_of_ble_eq_true rfl⟩ ⟨Nat.le_of_ble_eq_true rfl, Nat.le_of_ble_eq_true rfl⟩ rfl (Nat.le_of_ble_eq_true rfl) rfl dL_law_569 ?_
      refine n_pop X dL_law_572 rfl ?_
      refine n_goto (tgt := 1294) X dL_law_573 (by decide) ?_
      exact tail h g μ1 ν1 rfl hI1
    by_cases n_12 : z = (12 : Int32)
    · refine n_tsI (k := (12 : Int32)) (tgt := 576) X n_12 dL_law_33 (by decide) (by decide) rfl (by decide) ?_
      refine n_aload_n X dL_law_576 rfl rfl ?_
      refine n_aload_n X dL_law_577 rfl rfl ?_
      refine n_iload_n X dL_law_578 rfl rfl ?_
      refine n_iconst (v := (1 : Int32)) X dL_law_579 (by decide) ?_
      refine n_iadd X dL_law_580 ?_
      refine n_top (y := nI (i + 1)) (nI_ad i 1 rfl) ?_
      refine n_sld X hX hbl hbA (vp_in_nI (show i + 1 < L by omega) (by omega)) dL_law_581 ?_
      refine n_top (y := xs (i + 1)) (by rw [nI_clamp (show i + 1 < 2 ^ 31 by omega)]) ?_
      obtain ⟨μ1, ν1, r1, r2, hx, hm, hI1⟩ := okL_fly hL hI hi6 (xs (i + 1))
      refine n_callV X (n := 1) (List.range 85) 0 (c_X11_fly E h g hx) (capL rfl) nd85 (List.length_range.trans rfl) (ws' := (wX E h g μ1 ++ wM E h2 (fun _ => none) ν)) (putL nd85 rfl rfl) (wX_0 ..) rfl k_599 k_600 k_601 k_68 k_602 ⟨rfl, rfl⟩ hdV_X11_fly ⟨Nat.le_of_ble_eq_true rfl, Nat.le_of_ble_eq_true rfl⟩ ⟨Nat.le_of_ble_eq_true rfl, Nat.le_of_ble_eq_true rfl⟩ rfl (Nat.le_of_ble_eq_true rfl) rfl dL_law_582 ?_
      refine n_pop X dL_law_585 rfl ?_
      refine n_aload_n X dL_law_586 rfl rfl ?_
      refine n_aload_n X dL_law_587 rfl rfl ?_
      refine n_iload_n X dL_law_588 rfl rfl ?_
      refine n_iconst (v := (1 : Int32)) X dL_law_589 (by decide) ?_
      refine n_iadd X dL_law_590 ?_
      refine n_top (y := nI (i + 1)) (nI_ad i 1 rfl) ?_
      refine n_sld X hX hbl hbA (vp_in_nI (show i + 1 < L by omega) (by omega)) dL_law_591 ?_
      refine n_top (y := xs (i + 1)) (by rw [nI_clamp (show i + 1 < 2 ^ 31 by omega)]) ?_
      refine n_callV X (n := 1) ((List.range 14).map (fun i => 85 + i)) 0 (c_X12_fly E h2 (fun _ => none) hm) (capR rfl rfl) nd14 (by rw [List.length_map, List.length_range]; rfl) (ws' := (wX E h g μ1 ++ wM E h2 (fun _ => none) ν1)) (putR nd14a nd14 rfl rfl rfl) (wM_0 ..) rfl k_1153 k_1154 k_1155 k_80 k_1156 ⟨rfl, rfl⟩ hdV_X12_fly ⟨Nat.le_of_ble_eq_true rfl, Nat.le_of_ble_eq_true rfl⟩ ⟨Nat.le_of_ble_eq_true rfl, Nat.le_of_ble_eq_true rfl⟩ rfl (Nat.le_of_ble_eq_true rfl) rfl dL_law_592 ?_
      refine n_pop X dL_law_595 rfl ?_
      refine n_goto (tgt := 1294) X dL_law_596 (by decide) ?_
      exact tail h g μ1 ν1 rfl hI1
    by_cases n_13 : z = (13 : Int32)
    · refine n_tsI (k := (13 : Int32)) (tgt := 599) X n_13 dL_law_33 (by decide) (by decide) rfl (by decide) ?_
      refine n_aload_n X dL_law_599 rfl rfl ?_
      refine n_aload_n X dL_law_600 rfl rfl ?_
      refine n_iload_n X dL_law_601 rfl rfl ?_
      refine n_iconst (v := (1 : Int32)) X dL_law_602 (by decide) ?_
      refine n_iadd X dL_law_603 ?_
      refine n_top (y := nI (i + 1)) (nI_ad i 1 rfl) ?_
      refine n_sld X hX hbl hbA (vp_in_nI (show i + 1 < L by omega) (by omega)) dL_law_604 ?_
      refine n_top (y := xs (i + 1)) (by rw [nI_clamp (show i + 1 < 2 ^ 31 by omega)]) ?_
      obtain ⟨μ1, ν1, r1, r2, hx, hm, hI1⟩ := okL_poke hL hI hi6 (xs (i + 1))
      refine n_callV X (n := 1) (List.range 85) 0 (c_X11_poke E h g hx) (capL rfl) nd85 (List.length_range.trans rfl) (ws' := (wX E h g μ1 ++ wM E h2 (fun _ => none) ν)) (putL nd85 rfl rfl) (wX_0 ..) rfl k_609 k_610 k_611 k_68 k_612 ⟨rfl, rfl⟩ hdV_X11_poke ⟨Nat.le_of_ble_eq_true rfl, Nat.le_of_ble_eq_true rfl⟩ ⟨Nat.le_of_ble_eq_true rfl, Nat.le_of_ble_eq_true rfl⟩ rfl (Nat.le_of_ble_eq_true rfl) rfl dL_law_605 ?_
      refine n_pop X dL_law_608 rfl ?_
      refine n_aload_n X dL_law_609 rfl rfl ?_
      refine n_aload_n X dL_law_610 rfl rfl ?_
      refine n_iload_n X dL_law_611 rfl rfl ?_
      refine n_iconst (v := (1 : Int32)) X dL_law_612 (by decide) ?_
      refine n_iadd X dL_law_613 ?_
      refine n_top (y := nI (i + 1)) (nI_ad i 1 rfl) ?_
      refine n_sld X hX hbl hbA (vp_in_nI (show i + 1 < L by omega) (by omega)) dL_law_614 ?_
      refine n_top (y := xs (i + 1)) (by rw [nI_clamp (show i + 1 < 2 ^ 31 by omega)]) ?_
      refine n_callV X (n := 1) ((List.range 14).map (fun i => 85 + i)) 0 (c_X12_poke E h2 (fun _ => none) hm) (capR rfl rfl) nd14 (by rw [List.length_map, List.length_range]; rfl) (ws' := (wX E h g μ1 ++ wM E h2 (fun _ => none) ν1)) (putR nd14a nd14 rfl rfl rfl) (wM_0 ..) rfl k_1161 k_1162 k_1163 k_80 k_1164 ⟨rfl, rfl⟩ hdV_X12_poke ⟨Nat.le_of_ble_eq_true rfl, Nat.le_of_ble_eq_true rfl⟩ ⟨Nat.le_of_ble_eq_true rfl, Nat.le_of_ble_eq_true rfl⟩ rfl (Nat.le_of_ble_eq_true rfl) rfl dL_law_615 ?_
      refine n_pop X dL_law_618 rfl ?_
      refine n_goto (tgt := 1294) X dL_law_619 (by decide) ?_
      exact tail h g μ1 ν1 rfl hI1
    by_cases n_14 : z = (14 : Int32)
    · refine n_tsI (k := (14 : Int32)) (tgt := 622) X n_14 dL_law_33 (by decide) (by decide) rfl (by decide) ?_
      refine n_aload_n X dL_law_622 rfl rfl ?_
      refine n_aload_n X dL_law_623 rfl rfl ?_
      refine n_iload_n X dL_law_624 rfl rfl ?_
      refine n_iconst (v := (1 : Int32)) X dL_law_625 (by decide) ?_
      refine n_iadd X dL_law_626 ?_
      refine n_top (y := nI (i + 1)) (nI_ad i 1 rfl) ?_
      refine n_sld X hX hbl hbA (vp_in_nI (show i + 1 < L by omega) (by omega)) dL_law_627 ?_
      refine n_top (y := xs (i + 1)) (by rw [nI_clamp (show i + 1 < 2 ^ 31 by omega)]) ?_
      obtain ⟨μ1, ν1, r1, r2, hx, hm, hI1⟩ := okL_draws hL hI hi6 (xs (i + 1))
      refine n_callV X (n := 1) (List.range 85) 0 (c_X11_draws E h g hx) (capL rfl) nd85 (List.length_range.trans rfl) (ws' := (wX E h g μ1 ++ wM E h2 (fun _ => none) ν)) (putL nd85 rfl rfl) (wX_0 ..) rfl k_617 k_618 k_619 k_68 k_620 ⟨rfl, rfl⟩ hdV_X11_draws ⟨Nat.le_of_ble_eq_true rfl, Nat.le_of_ble_eq_true rfl⟩ ⟨Nat.le_of_ble_eq_true rfl, Nat.le_of_ble_eq_true rfl⟩ rfl (Nat.le_of_ble_eq_true rfl) rfl dL_law_628 ?_
      refine n_pop X dL_law_631 rfl ?_
      refine n_aload_n X dL_law_632 rfl rfl ?_
      refine n_aload_n X dL_law_633 rfl rfl ?_
      refine n_iload_n X dL_law_634 rfl rfl ?_
      refine n_iconst (v := (1 : Int32)) X dL_law_635 (by decide) ?_
      refine n_iadd X dL_law_636 ?_
      refine n_top (y := nI (i + 1)) (nI_ad i 1 rfl) ?_
      refine n_sld X hX hbl hbA (vp_in_nI (show i + 1 < L by omega) (by omega)) dL_law_637 ?_
      refine n_top (y := xs (i + 1)) (by rw [nI_clamp (show i + 1 < 2 ^ 31 by omega)]) ?_
      refine n_callV X (n := 1) ((List.range 14).map (fun i => 85 + i)) 0 (c_X12_draws E h2 (fun _ => none) hm) (capR rfl rfl) nd14 (by rw [List.length_map, List.length_range]; rfl) (ws' := (wX E h g μ1 ++ wM E h2 (fun _ => none) ν1)) (putR nd14a nd14 rfl rfl rfl) (wM_0 ..) rfl k_1169 k_1170 k_1171 k_80 k_1172 ⟨rfl, rfl⟩ hdV_X12_draws ⟨Nat.le_of_ble_eq_true rfl, Nat.le_of_ble_eq_true rfl⟩ ⟨Nat.le_of_ble_eq_true rfl, Nat.le_of_ble_eq_true rfl⟩ rfl (Nat.le_of_ble_eq_true rfl) rfl dL_law_638 ?_
      refine n_pop X dL_law_641 rfl ?_
      refine n_goto (tgt := 1294) X dL_law_642 (by decide) ?_
      exact tail h g μ1 ν1 rfl hI1
    by_cases n_15 : z = (15 : Int32)
    · refine n_tsI (k := (15 : Int32)) (tgt := 645) X n_15 dL_law_33 (by decide) (by decide) rfl (by decide) ?_
      refine n_aload_n X dL_law_645 rfl rfl ?_
      refine n_aload_n X dL_law_646 rfl rfl ?_
      refine n_iload_n X dL_law_647 rfl rfl ?_
      refine n_iconst (v := (1 : Int32)) X dL_law_648 (by decide) ?_
      refine n_iadd X dL_law_649 ?_
      refine n_top (y := nI (i + 1)) (nI_ad i 1 rfl) ?_
      refine n_sld X hX hbl hbA (vp_in_nI (show i + 1 < L by omega) (by omega)) dL_law_650 ?_
      refine n_top (y := xs (i + 1)) (by rw [nI_clamp (show i + 1 < 2 ^ 31 by omega)]) ?_
      obtain ⟨μ1, ν1, r1, r2, hx, hm, hI1⟩ := okL_seed hL hI hi6 (xs (i + 1))
      refine n_callV X (n := 1) (List.range 85) 0 (c_X11_seed E h g hx) (capL rfl) nd85 (List.length_range.trans rfl) (ws' := (wX E h g μ1 ++ wM E h2 (fun _ => none) ν)) (putL nd85 rfl rfl) (wX_0 ..) rfl k_626 k_627 k_628 k_68 k_629 ⟨rfl, rfl⟩ hdV_X11_seed ⟨Nat.le_of_ble_eq_true rfl, Nat.le_of_ble_eq_true rfl⟩ ⟨Nat.le_of_ble_eq_true rfl, Nat.le_of_ble_eq_true rfl⟩ rfl (Nat.le_of_ble_eq_true rfl) rfl dL_law_651 ?_
      refine n_pop X dL_law_654 rfl ?_
      refine n_aload_n X dL_law_655 rfl rfl ?_
      refine n_aload_n X dL_law_656 rfl rfl ?_
      refine n_iload_n X dL_law_657 rfl rfl ?_
      refine n_iconst (v := (1 : Int32)) X dL_law_658 (by decide) ?_
      refine n_iadd X dL_law_659 ?_
      refine n_top (y := nI (i + 1)) (nI_ad i 1 rfl) ?_
      refine n_sld X hX hbl hbA (vp_in_nI (show i + 1 < L by omega) (by omega)) dL_law_660 ?_
      refine n_top (y := xs (i + 1)) (by rw [nI_clamp (show i + 1 < 2 ^ 31 by omega)]) ?_
      refine n_callV X (n := 1) ((List.range 14).map (fun i => 85 + i)) 0 (c_X12_seed E h2 (fun _ => none) hm) (capR rfl rfl) nd14 (by rw [List.length_map, List.length_range]; rfl) (ws' := (wX E h g μ1 ++ wM E h2 (fun _ => none) ν1)) (putR nd14a nd14 rfl rfl rfl) (wM_0 ..) rfl k_1178 k_1179 k_1180 k_80 k_1181 ⟨rfl, rfl⟩ hdV_X12_seed ⟨Nat.le_of_ble_eq_true rfl, Nat.le_of_ble_eq_true rfl⟩ ⟨Nat.le_of_ble_eq_true rfl, Nat.le_of_ble_eq_true rfl⟩ rfl (Nat.le_of_ble_eq_true rfl) rfl dL_law_661 ?_
      refine n_pop X dL_law_664 rfl ?_
      refine n_goto (tgt := 1294) X dL_law_665 (by decide) ?_
      exact tail h g μ1 ν1 rfl hI1
    by_cases n_16 : z = (16 : Int32)
    · refine n_tsI (k := (16 : Int32)) (tgt := 668) X n_16 dL_law_33 (by decide) (by decide) rfl (by decide) ?_
      refine n_aload_n X dL_law_668 rfl rfl ?_
      refine n_aload_n X dL_law_669 rfl rfl ?_
      refine n_iload_n X dL_law_670 rfl rfl ?_
      refine n_iconst (v := (1 : Int32)) X dL_law_671 (by decide) ?_
      refine n_iadd X dL_law_672 ?_
      refine n_top (y := nI (i + 1)) (nI_ad i 1 rfl) ?_
      refine n_sld X hX hbl hbA (vp_in_nI (show i + 1 < L by omega) (by omega)) dL_law_673 ?_
      refine n_top (y := xs (i + 1)) (by rw [nI_clamp (show i + 1 < 2 ^ 31 by omega)]) ?_
      refine n_aload_n X dL_law_674 rfl rfl ?_
      refine n_iload_n X dL_law_675 rfl rfl ?_
      refine n_iconst (v := (2 : Int32)) X dL_law_676 (by decide) ?_
      refine n_iadd X dL_law_677 ?_
      refine n_top (y := nI (i + 2)) (nI_ad i 2 rfl) ?_
      refine n_sld X hX hbl hbA (vp_in_nI (show i + 2 < L by omega) (by omega)) dL_law_678 ?_
      refine n_top (y := xs (i + 2)) (by rw [nI_clamp (show i + 2 < 2 ^ 31 by omega)]) ?_
      refine n_aload_n X dL_law_679 rfl rfl ?_
      refine n_iload_n X dL_law_680 rfl rfl ?_
      refine n_iconst (v := (3 : Int32)) X dL_law_681 (by decide) ?_
      refine n_iadd X dL_law_682 ?_
      refine n_top (y := nI (i + 3)) (nI_ad i 3 rfl) ?_
      refine n_sld X hX hbl hbA (vp_in_nI (show i + 3 < L by omega) (by omega)) dL_law_683 ?_
      refine n_top (y := xs (i + 3)) (by rw [nI_clamp (show i + 3 < 2 ^ 31 by omega)]) ?_
      obtain ⟨μ1, ν1, r1, r2, hx, hm, hI1⟩ := okL_then hL hI hi6 (xs (i + 1)) (xs (i + 2)) (xs (i + 3))
      refine n_callV X (n := 3) (List.range 85) 0 (c_X11_then E h g hx) (capL rfl) nd85 (List.length_range.trans rfl) (ws' := (wX E h g μ1 ++ wM E h2 (fun _ => none) ν)) (putL nd85 rfl rfl) (wX_0 ..) rfl k_630 k_631 k_632 k_68 k_633 ⟨rfl, rfl⟩ hdV_X11_then ⟨Nat.le_of_ble_eq_true rfl, Nat.le_of_ble_eq_true rfl⟩ ⟨Nat.le_of_ble_eq_true rfl, Nat.le_of_ble_eq_true rfl⟩ rfl (Nat.le_of_ble_eq_true rfl) rfl dL_law_684 ?_
      refine n_pop X dL_law_687 rfl ?_
      refine n_aload_n X dL_law_688 rfl rfl ?_
      refine n_aload_n X dL_law_689 rfl rfl ?_
      refine n_iload_n X dL_law_690 rfl rfl ?_
      refine n_iconst (v := (1 : Int32)) X dL_law_691 (by decide) ?_
      refine n_iadd X dL_law_692 ?_
      refine n_top (y := nI (i + 1)) (nI_ad i 1 rfl) ?_
      refine n_sld X hX hbl hbA (vp_in_nI (show i + 1 < L by omega) (by omega)) dL_law_693 ?_
      refine n_top (y := xs (i + 1)) (by rw [nI_clamp (show i + 1 < 2 ^ 31 by omega)]) ?_
      refine n_aload_n X dL_law_694 rfl rfl ?_
      refine n_iload_n X dL_law_695 rfl rfl ?_
      refine n_iconst (v := (2 : Int32)) X dL_law_696 (by decide) ?_
      refine n_iadd X dL_law_697 ?_
      refine n_top (y := nI (i + 2)) (nI_ad i 2 rfl) ?_
      refine n_sld X hX hbl hbA (vp_in_nI (show i + 2 < L by omega) (by omega)) dL_law_698 ?_
      refine n_top (y := xs (i + 2)) (by rw [nI_clamp (show i + 2 < 2 ^ 31 by omega)]) ?_
      refine n_aload_n X dL_law_699 rfl rfl ?_
      refine n_iload_n X dL_law_700 rfl rfl ?_
      refine n_iconst (v := (3 : Int32)) X dL_law_701 (by decide) ?_
      refine n_iadd X dL_law_702 ?_
      refine n_top (y := nI (i + 3)) (nI_ad i 3 rfl) ?_
      refine n_sld X hX hbl hbA (vp_in_nI (show i + 3 < L by omega) (by omega)) dL_law_703 ?_
      refine n_top (y := xs (i + 3)) (by rw [nI_clamp (show i + 3 < 2 ^ 31 by omega)]) ?_
      refine n_callV X (n := 3) ((List.range 14).map (fun i => 85 + i)) 0 (c_X12_then E h2 (fun _ => none) hm) (capR rfl rfl) nd14 (by rw [List.length_map, List.length_range]; rfl) (ws' := (wX E h g μ1 ++ wM E h2 (fun _ => none) ν1)) (putR nd14a nd14 rfl rfl rfl) (wM_0 ..) rfl k_1182 k_1183 k_1184 k_80 k_1185 ⟨rfl, rfl⟩ hdV_X12_then ⟨Nat.le_of_ble_eq_true rfl, Nat.le_of_ble_eq_true rfl⟩ ⟨Nat.le_of_ble_eq_true rfl, Nat.le_of_ble_eq_true rfl⟩ rfl (Nat.le_of_ble_eq_true rfl) rfl dL_law_704 ?_
      refine n_pop X dL_law_707 rfl ?_
      refine n_goto (tgt := 1294) X dL_law_708 (by decide) ?_
      exact tail h g μ1 ν1 rfl hI1
    by_cases n_17 : z = (17 : Int32)
    · refine n_tsI (k := (17 : Int32)) (tgt := 711) X n_17 dL_law_33 (by decide) (by decide) rfl (by decide) ?_
      refine n_aload_n X dL_law_711 rfl rfl ?_
      refine n_aload_n X dL_law_712 rfl rfl ?_
      refine n_iload_n X dL_law_713 rfl rfl ?_
      refine n_iconst (v := (1 : Int32)) X dL_law_714 (by decide) ?_
      refine n_iadd X dL_law_715 ?_
      refine n_top (y := nI (i + 1)) (nI_ad i 1 rfl) ?_
      refine n_sld X hX hbl hbA (vp_in_nI (show i + 1 < L by omega) (by omega)) dL_law_716 ?_
      refine n_top (y := xs (i + 1)) (by rw [nI_clamp (show i + 1 < 2 ^ 31 by omega)]) ?_
      obtain ⟨μ1, ν1, r1, r2, hx, hm, hI1⟩ := okL_standing hL hI hi6 (xs (i + 1))
      refine n_callV X (n := 1) (List.range 85) 0 (c_X11_standing E h g hx) (capL rfl) nd85 (List.length_range.trans rfl) (ws' := (wX E h g μ1 ++ wM E h2 (fun _ => none) ν)) (putL nd85 rfl rfl) (wX_0 ..) rfl k_645 k_646 k_647 k_68 k_648 ⟨rfl, rfl⟩ hdV_X11_standing ⟨Nat.le_of_ble_eq_true rfl, Nat.le_of_ble_eq_true rfl⟩ ⟨Nat.le_of_ble_eq_true rfl, Nat.le_of_ble_eq_true rfl⟩ rfl (Nat.le_of_ble_eq_true rfl) rfl dL_law_717 ?_
      refine n_pop X dL_law_720 rfl ?_
      refine n_aload_n X dL_law_721 rfl rfl ?_
      refine n_aload_n X dL_law_722 rfl rfl ?_
      refine n_iload_n X dL_law_723 rfl rfl ?_
      refine n_iconst (v := (1 : Int32)) X dL_law_724 (by decide) ?_
      refine n_iadd X dL_law_725 ?_
      refine n_top (y := nI (i + 1)) (nI_ad i 1 rfl) ?_
      refine n_sld X hX hbl hbA (vp_in_nI (show i + 1 < L by omega) (by omega)) dL_law_726 ?_
      refine n_top (y := xs (i + 1)) (by rw [nI_clamp (show i + 1 < 2 ^ 31 by omega)]) ?_
      refine n_callV X (n := 1) ((List.range 14).map (fun i => 85 + i)) 0 (c_X12_standing E h2 (fun _ => none) hm) (capR rfl rfl) nd14 (by rw [List.length_map, List.length_range]; rfl) (ws' := (wX E h g μ1 ++ wM E h2 (fun _ => none) ν1)) (putR nd14a nd14 rfl rfl rfl) (wM_0 ..) rfl k_1194 k_1195 k_1196 k_80 k_1197 ⟨rfl, rfl⟩ hdV_X12_standing ⟨Nat.le_of_ble_eq_true rfl, Nat.le_of_ble_eq_true rfl⟩ ⟨Nat.le_of_ble_eq_true rfl, Nat.le_of_ble_eq_true rfl⟩ rfl (Nat.le_of_ble_eq_true rfl) rfl dL_law_727 ?_
      refine n_pop X dL_law_730 rfl ?_
      refine n_goto (tgt := 1294) X dL_law_731 (by decide) ?_
      exact tail h g μ1 ν1 rfl hI1
    by_cases n_18 : z = (18 : Int32)
    · refine n_tsI (k := (18 : Int32)) (tgt := 734) X n_18 dL_law_33 (by decide) (by decide) rfl (by decide) ?_
      refine n_aload_n X dL_law_734 rfl rfl ?_
      refine n_aload_n X dL_law_735 rfl rfl ?_
      refine n_iload_n X dL_law_736 rfl rfl ?_
      refine n_iconst (v := (1 : Int32)) X dL_law_737 (by decide) ?_
      refine n_iadd X dL_law_738 ?_
      refine n_top (y := nI (i + 1)) (nI_ad i 1 rfl) ?_
      refine n_sld X hX hbl hbA (vp_in_nI (show i + 1 < L by omega) (by omega)) dL_law_739 ?_
      refine n_top (y := xs (i + 1)) (by rw [nI_clamp (show i + 1 < 2 ^ 31 by omega)]) ?_
      obtain ⟨μ1, ν1, r1, r2, hx, hm, hI1⟩ := okL_lasts hL hI hi6 (xs (i + 1))
      refine n_callV X (n := 1) (List.range 85) 0 (c_X11_lasts E h g hx) (capL rfl) nd85 (List.length_range.trans rfl) (ws' := (wX E h g μ1 ++ wM E h2 (fun _ => none) ν)) (putL nd85 rfl rfl) (wX_0 ..) rfl k_663 k_664 k_665 k_68 k_666 ⟨rfl, rfl⟩ hdV_X11_lasts ⟨Nat.le_of_ble_eq_true rfl, Nat.le_of_ble_eq_true rfl⟩ ⟨Nat.le_of_ble_eq_true rfl, Nat.le_of_ble_eq_true rfl⟩ rfl (Nat.le_of_ble_eq_true rfl) rfl dL_law_740 ?_
      refine n_pop X dL_law_743 rfl ?_
      refine n_aload_n X dL_law_744 rfl rfl ?_
      refine n_aload_n X dL_law_745 rfl rfl ?_
      refine n_iload_n X dL_law_746 rfl rfl ?_
      refine n_iconst (v := (1 : Int32)) X dL_law_747 (by decide) ?_
      refine n_iadd X dL_law_748 ?_
      refine n_top (y := nI (i + 1)) (nI_ad i 1 rfl) ?_
      refine n_sld X hX hbl hbA (vp_in_nI (show i + 1 < L by omega) (by omega)) dL_law_749 ?_
      refine n_top (y := xs (i + 1)) (by rw [nI_clamp (show i + 1 < 2 ^ 31 by omega)]) ?_
      refine n_callV X (n := 1) ((List.range 14).map (fun i => 85 + i)) 0 (c_X12_lasts E h2 (fun _ => none) hm) (capR rfl rfl) nd14 (by rw [List.length_map, List.length_range]; rfl) (ws' := (wX E h g μ1 ++ wM E h2 (fun _ => none) ν1)) (putR nd14a nd14 rfl rfl rfl) (wM_0 ..) rfl k_1202 k_1203 k_1204 k_80 k_1205 ⟨rfl, rfl⟩ hdV_X12_lasts ⟨Nat.le_of_ble_eq_true rfl, Nat.le_of_ble_eq_true rfl⟩ ⟨Nat.le_of_ble_eq_true rfl, Nat.le_of_ble_eq_true rfl⟩ rfl (Nat.le_of_ble_eq_true rfl) rfl dL_law_750 ?_
      refine n_pop X dL_law_753 rfl ?_
      refine n_goto (tgt := 1294) X dL_law_754 (by decide) ?_
      exact tail h g μ1 ν1 rfl hI1
    by_cases n_19 : z = (19 : Int32)
    · refine n_tsI (k := (19 : Int32)) (tgt := 757) X n_19 dL_law_33 (by decide) (by decide) rfl (by decide) ?_
      refine n_aload_n X dL_law_757 rfl rfl ?_
      obtain ⟨μ1, ν1, r1, r2, hx, hm, hI1⟩ := okL_lastOne hL hI hi6 
      refine n_callV X (n := 0) (List.range 85) 0 (c_X11_lastOne E h g hx) (capL rfl) nd85 (List.length_range.trans rfl) (ws' := (wX E h g μ1 ++ wM E h2 (fun _ => none) ν)) (putL nd85 rfl rfl) (wX_0 ..) rfl k_671 k_672 k_673 k_68 k_674 ⟨rfl, rfl⟩ hdV_X11_lastOne ⟨Nat.le_of_ble_eq_true rfl, Nat.le_of_ble_eq_true rfl⟩ ⟨Nat.le_of_ble_eq_true rfl, Nat.le_of_ble_eq_true rfl⟩ rfl (Nat.le_of_ble_eq_true rfl) rfl dL_law_758 ?_
      refine n_pop X dL_law_761 rfl ?_
      refine n_aload_n X dL_law_762 rfl rfl ?_
      refine n_callV X (n := 0) ((List.range 14).map (fun i => 85 + i)) 0 (c_X12_lastOne E h2 (fun _ => none) hm) (capR rfl rfl) nd14 (by rw [List.length_map, List.length_range]; rfl) (ws' := (wX E h g μ1 ++ wM E h2 (fun _ => none) ν1)) (putR nd14a nd14 rfl rfl rfl) (wM_0 ..) rfl k_1210 k_1211 k_1212 k_80 k_1213 ⟨rfl, rfl⟩ hdV_X12_lastOne ⟨Nat.le_of_ble_eq_true rfl, Nat.le_of_ble_eq_true rfl⟩ ⟨Nat.le_of_ble_eq_true rfl, Nat.le_of_ble_eq_true rfl⟩ rfl (Nat.le_of_ble_eq_true rfl) rfl dL_law_763 ?_
      refine n_pop X dL_law_766 rfl ?_
      refine n_goto (tgt := 1294) X dL_law_767 (by decide) ?_
      exact tail h g μ1 ν1 rfl hI1
    by_cases n_20 : z = (20 : Int32)
    · refine n_tsI (k := (20 : Int32)) (tgt := 770) X n_20 dL_law_33 (by decide) (by decide) rfl (by decide) ?_
      refine n_aload_n X dL_law_770 rfl rfl ?_
      refine n_aload_n X dL_law_771 rfl rfl ?_
      refine n_iload_n X dL_law_772 rfl rfl ?_
      refine n_iconst (v := (1 : Int32)) X dL_law_773 (by decide) ?_
      refine n_iadd X dL_law_774 ?_
      refine n_top (y := nI (i + 1)) (nI_ad i 1 rfl) ?_
      refine n_sld X hX hbl hbA (vp_in_nI (show i + 1 < L by omega) (by omega)) dL_law_775 ?_
      refine n_top (y := xs (i + 1)) (by rw [nI_clamp (show i + 1 < 2 ^ 31 by omega)]) ?_
      refine n_aload_n X dL_law_776 rfl rfl ?_
      refine n_iload_n X dL_law_777 rfl rfl ?_
      refine n_iconst (v := (2 : Int32)) X dL_law_778 (by decide) ?_
      refine n_iadd X dL_law_779 ?_
      refine n_top (y := nI (i + 2)) (nI_ad i 2 rfl) ?_
      refine n_sld X hX hbl hbA (vp_in_nI (show i + 2 < L by omega) (by omega)) dL_law_780 ?_
      refine n_top (y := xs (i + 2)) (by rw [nI_clamp (show i + 2 < 2 ^ 31 by omega)]) ?_
      refine n_aload_n X dL_law_781 rfl rfl ?_
      refine n_iload_n X dL_law_782 rfl rfl ?_
      refine n_iconst (v := (3 : Int32)) X dL_law_783 (by decide) ?_
      refine n_iadd X dL_law_784 ?_
      refine n_top (y := nI (i + 3)) (nI_ad i 3 rfl) ?_
      refine n_sld X hX hbl hbA (vp_in_nI (show i + 3 < L by omega) (by omega)) dL_law_785 ?_
      refine n_top (y := xs (i + 3)) (by rw [nI_clamp (show i + 3 < 2 ^ 31 by omega)]) ?_
      obtain ⟨μ1, ν1, r1, r2, hx, hm, hI1⟩ := okL_round hL hI hi6 (xs (i + 1)) (xs (i + 2)) (xs (i + 3))
      refine n_callVF X F (n := 3) (List.range 85) 0 (c_X11_round tn tt E h g hx) (capL rfl) nd85 (List.length_range.trans rfl) (ws' := (wX E h g μ1 ++ wM E h2 (fun _ => none) ν)) (putL nd85 rfl rfl) (wX_0 ..) rfl k_675 k_676 k_677 k_68 k_678 ⟨rfl, rfl⟩ hdV_X11_round ⟨Nat.le_of_ble_eq_true rfl, Nat.le_of_ble_eq_true rfl⟩ ⟨Nat.le_of_ble_eq_true rfl, Nat.le_of_ble_eq_true rfl⟩ rfl (Nat.le_of_ble_eq_true rfl) rfl dL_law_786 ?_
      refine n_pop X dL_law_789 rfl ?_
      refine n_aload_n X dL_law_790 rfl rfl ?_
      refine n_aload_n X dL_law_791 rfl rfl ?_
      refine n_iload_n X dL_law_792 rfl rfl ?_
      refine n_iconst (v := (1 : Int32)) X dL_law_793 (by decide) ?_
      refine n_iadd X dL_law_794 ?_
      refine n_top (y := nI (i + 1)) (nI_ad i 1 rfl) ?_
      refine n_sld X hX hbl hbA (vp_in_nI (show i + 1 < L by omega) (by omega)) dL_law_795 ?_
      refine n_top (y := xs (i + 1)) (by rw [nI_clamp (show i + 1 < 2 ^ 31 by omega)]) ?_
      refine n_aload_n X dL_law_796 rfl rfl ?_
      refine n_iload_n X dL_law_797 rfl rfl ?_
      refine n_iconst (v := (2 : Int32)) X dL_law_798 (by decide) ?_
      refine n_iadd X dL_law_799 ?_
      refine n_top (y := nI (i + 2)) (nI_ad i 2 rfl) ?_
      refine n_sld X hX hbl hbA (vp_in_nI (show i + 2 < L by omega) (by omega)) dL_law_800 ?_
      refine n_top (y := xs (i + 2)) (by rw [nI_clamp (show i + 2 < 2 ^ 31 by omega)]) ?_
      refine n_aload_n X dL_law_801 rfl rfl ?_
      refine n_iload_n X dL_law_802 rfl rfl ?_
      refine n_iconst (v := (3 : Int32)) X dL_law_803 (by decide) ?_
      refine n_iadd X dL_law_804 ?_
      refine n_top (y := nI (i + 3)) (nI_ad i 3 rfl) ?_
      refine n_sld X hX hbl hbA (vp_in_nI (show i + 3 < L by omega) (by omega)) dL_law_805 ?_
      refine n_top (y := xs (i + 3)) (by rw [nI_clamp (show i + 3 < 2 ^ 31 by omega)]) ?_
      refine n_callV X (n := 3) ((List.range 14).map (fun i => 85 + i)) 0 (c_X12_round E h2 (fun _ => none) hm) (capR rfl rfl) nd14 (by rw [List.length_map, List.length_range]; rfl) (ws' := (wX E h g μ1 ++ wM E h2 (fun _ => none) ν1)) (putR nd14a nd14 rfl rfl rfl) (wM_0 ..) rfl k_1214 k_1215 k_1216 k_80 k_1217 ⟨rfl, rfl⟩ hdV_X12_round ⟨Nat.le_of_ble_eq_true rfl, Nat.le_of_ble_eq_true rfl⟩ ⟨Nat.le_of_ble_eq_true rfl, Nat.le_of_ble_eq_true rfl⟩ rfl (Nat.le_of_ble_eq_true rfl) rfl dL_law_806 ?_
      refine n_pop X dL_law_809 rfl ?_
      refine n_goto (tgt := 1294) X dL_law_810 (by decide) ?_
      exact tail h g μ1 ν1 rfl hI1
    by_cases n_21 : z = (21 : Int32)
    · refine n_tsI (k := (21 : Int32)) (tgt := 813) X n_21 dL_law_33 (by decide) (by decide) rfl (by decide) ?_
      refine n_aload_n X dL_law_813 rfl rfl ?_
      refine n_aload_n X dL_law_814 rfl rfl ?_
      refine n_iload_n X dL_law_815 rfl rfl ?_
      refine n_iconst (v := (1 : Int32)) X dL_law_816 (by decide) ?_
      refine n_iadd X dL_law_817 ?_
      refine n_top (y := nI (i + 1)) (nI_ad i 1 rfl) ?_
      refine n_sld X hX hbl hbA (vp_in_nI (show i + 1 < L by omega) (by omega)) dL_law_818 ?_
      refine n_top (y := xs (i + 1)) (by rw [nI_clamp (show i + 1 < 2 ^ 31 by omega)]) ?_
      refine n_aload_n X dL_law_819 rfl rfl ?_
      refine n_iload_n X dL_law_820 rfl rfl ?_
      refine n_iconst (v := (2 : Int32)) X dL_law_821 (by decide) ?_
      refine n_iadd X dL_law_822 ?_
      refine n_top (y := nI (i + 2)) (nI_ad i 2 rfl) ?_
      refine n_sld X hX hbl hbA (vp_in_nI (show i + 2 < L by omega) (by omega)) dL_law_823 ?_
      refine n_top (y := xs (i + 2)) (by rw [nI_clamp (show i + 2 < 2 ^ 31 by omega)]) ?_
      obtain ⟨μ1, ν1, r1, r2, hx, hm, hI1⟩ := okL_change hL hI hi6 (xs (i + 1)) (xs (i + 2))
      refine n_callV X (n := 2) (List.range 85) 0 (c_X11_change E h g hx) (capL rfl) nd85 (List.length_range.trans rfl) (ws' := (wX E h g μ1 ++ wM E h2 (fun _ => none) ν)) (putL nd85 rfl rfl) (wX_0 ..) rfl k_694 k_695 k_696 k_68 k_697 ⟨rfl, rfl⟩ hdV_X11_change ⟨Nat.le_of_ble_eq_true rfl, Nat.le_of_ble_eq_true rfl⟩ ⟨Nat.le_of_ble_eq_true rfl, Nat.le_of_ble_eq_true rfl⟩ rfl (Nat.le_of_ble_eq_true rfl) rfl dL_law_824 ?_
      refine n_pop X dL_law_827 rfl ?_
      refine n_aload_n X dL_law_828 rfl rfl ?_
      refine n_aload_n X dL_law_829 rfl rfl ?_
      refine n_iload_n X dL_law_830 rfl rfl ?_
      refine n_iconst (v := (1 : Int32)) X dL_law_831 (by decide) ?_
      refine n_iadd X dL_law_832 ?_
      refine n_top (y := nI (i + 1)) (nI_ad i 1 rfl) ?_
      refine n_sld X hX hbl hbA (vp_in_nI (show i + 1 < L by omega) (by omega)) dL_law_833 ?_
      refine n_top (y := xs (i + 1)) (by rw [nI_clamp (show i + 1 < 2 ^ 31 by omega)]) ?_
      refine n_aload_n X dL_law_834 rfl rfl ?_
      refine n_iload_n X dL_law_835 rfl rfl ?_
      refine n_iconst (v := (2 : Int32)) X dL_law_836 (by decide) ?_
      refine n_iadd X dL_law_837 ?_
      refine n_top (y := nI (i + 2)) (nI_ad i 2 rfl) ?_
      refine n_sld X hX hbl hbA (vp_in_nI (show i + 2 < L by omega) (by omega)) dL_law_838 ?_
      refine n_top (y := xs (i + 2)) (by rw [nI_clamp (show i + 2 < 2 ^ 31 by omega)]) ?_
      refine n_callV X (n := 2) ((List.range 14).map (fun i => 85 + i)) 0 (c_X12_change E h2 (fun _ => none) hm) (capR rfl rfl) nd14 (by rw [List.length_map, List.length_range]; rfl) (ws' := (wX E h g μ1 ++ wM E h2 (fun _ => none) ν1)) (putR nd14a nd14 rfl rfl rfl) (wM_0 ..) rfl k_1218 k_1219 k_1220 k_80 k_1221 ⟨rfl, rfl⟩ hdV_X12_change ⟨Nat.le_of_ble_eq_true rfl, Nat.le_of_ble_eq_true rfl⟩ ⟨Nat.le_of_ble_eq_true rfl, Nat.le_of_ble_eq_true rfl⟩ rfl (Nat.le_of_ble_eq_true rfl) rfl dL_law_839 ?_
      refine n_pop X dL_law_842 rfl ?_
      refine n_goto (tgt := 1294) X dL_law_843 (by decide) ?_
      exact tail h g μ1 ν1 rfl hI1
    by_cases n_22 : z = (22 : Int32)
    · refine n_tsI (k := (22 : Int32)) (tgt := 846) X n_22 dL_law_33 (by decide) (by decide) rfl (by decide) ?_
      refine n_aload_n X dL_law_846 rfl rfl ?_
      refine n_aload_n X dL_law_847 rfl rfl ?_
      refine n_iload_n X dL_law_848 rfl rfl ?_
      refine n_iconst (v := (1 : Int32)) X dL_law_849 (by decide) ?_
      refine n_iadd X dL_law_850 ?_
      refine n_top (y := nI (i + 1)) (nI_ad i 1 rfl) ?_
      refine n_sld X hX hbl hbA (vp_in_nI (show i + 1 < L by omega) (by omega)) dL_law_851 ?_
      refine n_top (y := xs (i + 1)) (by rw [nI_clamp (show i + 1 < 2 ^ 31 by omega)]) ?_
      obtain ⟨μ1, ν1, r1, r2, hx, hm, hI1⟩ := okL_empties hL hI hi6 (xs (i + 1))
      refine n_callV X (n := 1) (List.range 85) 0 (c_X11_empties E h g hx) (capL rfl) nd85 (List.length_range.trans rfl) (ws' := (wX E h g μ1 ++ wM E h2 (fun _ => none) ν)) (putL nd85 rfl rfl) (wX_0 ..) rfl k_698 k_699 k_700 k_68 k_701 ⟨rfl, rfl⟩ hdV_X11_empties ⟨Nat.le_of_ble_eq_true rfl, Nat.le_of_ble_eq_true rfl⟩ ⟨Nat.le_of_ble_eq_true rfl, Nat.le_of_ble_eq_true rfl⟩ rfl (Nat.le_of_ble_eq_true rfl) rfl dL_law_852 ?_
      refine n_pop X dL_law_855 rfl ?_
      refine n_aload_n X dL_law_856 rfl rfl ?_
      refine n_aload_n X dL_law_857 rfl rfl ?_
      refine n_iload_n X dL_law_858 rfl rfl ?_
      refine n_iconst (v := (1 : Int32)) X dL_law_859 (by decide) ?_
      refine n_iadd X dL_law_860 ?_
      refine n_top (y := nI (i + 1)) (nI_ad i 1 rfl) ?_
      refine n_sld X hX hbl hbA (vp_in_nI (show i + 1 < L by omega) (by omega)) dL_law_861 ?_
      refine n_top (y := xs (i + 1)) (by rw [nI_clamp (show i + 1 < 2 ^ 31 by omega)]) ?_
      refine n_callV X (n := 1) ((List.range 14).map (fun i => 85 + i)) 0 (c_X12_empties E h2 (fun _ => none) hm) (capR rfl rfl) nd14 (by rw [List.length_map, List.length_range]; rfl) (ws' := (wX E h g μ1 ++ wM E h2 (fun _ => none) ν1)) (putR nd14a nd14 rfl rfl rfl) (wM_0 ..) rfl k_1222 k_1223 k_1224 k_80 k_1225 ⟨rfl, rfl⟩ hdV_X12_empties ⟨Nat.le_of_ble_eq_true rfl, Nat.le_of_ble_eq_true rfl⟩ ⟨Nat.le_of_ble_eq_true rfl, Nat.le_of_ble_eq_true rfl⟩ rfl (Nat.le_of_ble_eq_true rfl) rfl dL_law_862 ?_
      refine n_pop X dL_law_865 rfl ?_
      refine n_goto (tgt := 1294) X dL_law_866 (by decide) ?_
      exact tail h g μ1 ν1 rfl hI1
    by_cases n_23 : z = (23 : Int32)
    · refine n_tsI (k := (23 : Int32)) (tgt := 869) X n_23 dL_law_33 (by decide) (by decide) rfl (by decide) ?_
      refine n_aload_n X dL_law_869 rfl rfl ?_
      refine n_aload_n X dL_law_870 rfl rfl ?_
      refine n_iload_n X dL_law_871 rfl rfl ?_
      refine n_iconst (v := (1 : Int32)) X dL_law_872 (by decide) ?_
      refine n_iadd X dL_law_873 ?_
      refine n_top (y := nI (i + 1)) (nI_ad i 1 rfl) ?_
      refine n_sld X hX hbl hbA (vp_in_nI (show i + 1 < L by omega) (by omega)) dL_law_874 ?_
      refine n_top (y := xs (i + 1)) (by rw [nI_clamp (show i + 1 < 2 ^ 31 by omega)]) ?_
      obtain ⟨μ1, ν1, r1, r2, hx, hm, hI1⟩ := okL_whose hL hI hi6 (xs (i + 1))
      refine n_callV X (n := 1) (List.range 85) 0 (c_X11_whose E h g hx) (capL rfl) nd85 (List.length_range.trans rfl) (ws' := (wX E h g μ1 ++ wM E h2 (fun _ => none) ν)) (putL nd85 rfl rfl) (wX_0 ..) rfl k_708 k_709 k_710 k_68 k_711 ⟨rfl, rfl⟩ hdV_X11_whose ⟨Nat.le_of_ble_eq_true rfl, Nat.le_of_ble_eq_true rfl⟩ ⟨Nat.le_of_ble_eq_true rfl, Nat.le_of_ble_eq_true rfl⟩ rfl (Nat.le_of_ble_eq_true rfl) rfl dL_law_875 ?_
      refine n_pop X dL_law_878 rfl ?_
      refine n_aload_n X dL_law_879 rfl rfl ?_
      refine n_aload_n X dL_law_880 rfl rfl ?_
      refine n_iload_n X dL_law_881 rfl rfl ?_
      refine n_iconst (v := (1 : Int32)) X dL_law_882 (by decide) ?_
      refine n_iadd X dL_law_883 ?_
      refine n_top (y := nI (i + 1)) (nI_ad i 1 rfl) ?_
      refine n_sld X hX hbl hbA (vp_in_nI (show i + 1 < L by omega) (by omega)) dL_law_884 ?_
      refine n_top (y := xs (i + 1)) (by rw [nI_clamp (show i + 1 < 2 ^ 31 by omega)]) ?_
      refine n_callV X (n := 1) ((List.range 14).map (fun i => 85 + i)) 0 (c_X12_whose E h2 (fun _ => none) hm) (capR rfl rfl) nd14 (by rw [List.length_map, List.length_range]; rfl) (ws' := (wX E h g μ1 ++ wM E h2 (fun _ => none) ν1)) (putR nd14a nd14 rfl rfl rfl) (wM_0 ..) rfl k_1233 k_1234 k_1235 k_80 k_1236 ⟨rfl, rfl⟩ hdV_X12_whose ⟨Nat.le_of_ble_eq_true rfl, Nat.le_of_ble_eq_true rfl⟩ ⟨Nat.le_of_ble_eq_true rfl, Nat.le_of_ble_eq_true rfl⟩ rfl (Nat.le_of_ble_eq_true rfl) rfl dL_law_885 ?_
      refine n_pop X dL_law_888 rfl ?_
      refine n_goto (tgt := 1294) X dL_law_889 (by decide) ?_
      exact tail h g μ1 ν1 rfl hI1
    by_cases n_24 : z = (24 : Int32)
    · refine n_tsI (k := (24 : Int32)) (tgt := 892) X n_24 dL_law_33 (by decide) (by decide) rfl (by decide) ?_
      refine n_aload_n X dL_law_892 rfl rfl ?_
      refine n_aload_n X dL_law_893 rfl rfl ?_
      refine n_iload_n X dL_law_894 rfl rfl ?_
      refine n_iconst (v := (1 : Int32)) X dL_law_895 (by decide) ?_
      refine n_iadd X dL_law_896 ?_
      refine n_top (y := nI (i + 1)) (nI_ad i 1 rfl) ?_
      refine n_sld X hX hbl hbA (vp_in_nI (show i + 1 < L by omega) (by omega)) dL_law_897 ?_
      refine n_top (y := xs (i + 1)) (by rw [nI_clamp (show i + 1 < 2 ^ 31 by omega)]) ?_
      refine n_aload_n X dL_law_898 rfl rfl ?_
      refine n_iload_n X dL_law_899 rfl rfl ?_
      refine n_iconst (v := (2 : Int32)) X dL_law_900 (by decide) ?_
      refine n_iadd X dL_law_901 ?_
      refine n_top (y := nI (i + 2)) (nI_ad i 2 rfl) ?_
      refine n_sld X hX hbl hbA (vp_in_nI (show i + 2 < L by omega) (by omega)) dL_law_902 ?_
      refine n_top (y := xs (i + 2)) (by rw [nI_clamp (show i + 2 < 2 ^ 31 by omega)]) ?_
      obtain ⟨μ1, ν1, r1, r2, hx, hm, hI1⟩ := okL_slate hL hI hi6 (xs (i + 1)) (xs (i + 2))
      refine n_callV X (n := 2) (List.range 85) 0 (c_X11_slate E h g hx) (capL rfl) nd85 (List.length_range.trans rfl) (ws' := (wX E h g μ1 ++ wM E h2 (fun _ => none) ν)) (putL nd85 rfl rfl) (wX_0 ..) rfl k_712 k_713 k_714 k_68 k_715 ⟨rfl, rfl⟩ hdV_X11_slate ⟨Nat.le_of_ble_eq_true rfl, Nat.le_of_ble_eq_true rfl⟩ ⟨Nat.le_of_ble_eq_true rfl, Nat.le_of_ble_eq_true rfl⟩ rfl (Nat.le_of_ble_eq_true rfl) rfl dL_law_903 ?_
      refine n_pop2 X dL_law_906 rfl ?_
      refine n_aload_n X dL_law_907 rfl rfl ?_
      refine n_aload_n X dL_law_908 rfl rfl ?_
      refine n_iload_n X dL_law_909 rfl rfl ?_
      refine n_iconst (v := (1 : Int32)) X dL_law_910 (by decide) ?_
      refine n_iadd X dL_law_911 ?_
      refine n_top (y := nI (i + 1)) (nI_ad i 1 rfl) ?_
      refine n_sld X hX hbl hbA (vp_in_nI (show i + 1 < L by omega) (by omega)) dL_law_912 ?_
      refine n_top (y := xs (i + 1)) (by rw [nI_clamp (show i + 1 < 2 ^ 31 by omega)]) ?_
      refine n_aload_n X dL_law_913 rfl rfl ?_
      refine n_iload_n X dL_law_914 rfl rfl ?_
      refine n_iconst (v := (2 : Int32)) X dL_law_915 (by decide) ?_
      refine n_iadd X dL_law_916 ?_
      refine n_top (y := nI (i + 2)) (nI_ad i 2 rfl) ?_
      refine n_sld X hX hbl hbA (vp_in_nI (show i + 2 < L by omega) (by omega)) dL_law_917 ?_
      refine n_top (y := xs (i + 2)) (by rw [nI_clamp (show i + 2 < 2 ^ 31 by omega)]) ?_
      refine n_callV X (n := 2) ((List.range 14).map (fun i => 85 + i)) 0 (c_X12_slate E h2 (fun _ => none) hm) (capR rfl rfl) nd14 (by rw [List.length_map, List.length_range]; rfl) (ws' := (wX E h g μ1 ++ wM E h2 (fun _ => none) ν1)) (putR nd14a nd14 rfl rfl rfl) (wM_0 ..) rfl k_1237 k_1238 k_1239 k_80 k_1240 ⟨rfl, rfl⟩ hdV_X12_slate ⟨Nat.le_of_ble_eq_true rfl, Nat.le_of_ble_eq_true rfl⟩ ⟨Nat.le_of_ble_eq_true rfl, Nat.le_of_ble_eq_true rfl⟩ rfl (Nat.le_of_ble_eq_true rfl) rfl dL_law_918 ?_
      refine n_pop2 X dL_law_921 rfl ?_
      refine n_goto (tgt := 1294) X dL_law_922 (by decide) ?_
      exact tail h g μ1 ν1 rfl hI1
    by_cases n_25 : z = (25 : Int32)
    · refine n_tsI (k := (25 : Int32)) (tgt := 925) X n_25 dL_law_33 (by decide) (by decide) rfl (by decide) ?_
      refine n_aload_n X dL_law_925 rfl rfl ?_
      refine n_aload_n X dL_law_926 rfl rfl ?_
      refine n_iload_n X dL_law_927 rfl rfl ?_
      refine n_iconst (v := (1 : Int32)) X dL_law_928 (by decide) ?_
      refine n_iadd X dL_law_929 ?_
      refine n_top (y := nI (i + 1)) (nI_ad i 1 rfl) ?_
      refine n_sld X hX hbl hbA (vp_in_nI (show i + 1 < L by omega) (by omega)) dL_law_930 ?_
      refine n_top (y := xs (i + 1)) (by rw [nI_clamp (show i + 1 < 2 ^ 31 by omega)]) ?_
      refine n_aload_n X dL_law_931 rfl rfl ?_
      refine n_iload_n X dL_law_932 rfl rfl ?_
      refine n_iconst (v := (2 : Int32)) X dL_law_933 (by decide) ?_
      refine n_iadd X dL_law_934 ?_
      refine n_top (y := nI (i + 2)) (nI_ad i 2 rfl) ?_
      refine n_sld X hX hbl hbA (vp_in_nI (show i + 2 < L by omega) (by omega)) dL_law_935 ?_
      refine n_top (y := xs (i + 2)) (by rw [nI_clamp (show i + 2 < 2 ^ 31 by omega)]) ?_
      refine n_aload_n X dL_law_936 rfl rfl ?_
      refine n_iload_n X dL_law_937 rfl rfl ?_
      refine n_iconst (v := (3 : Int32)) X dL_law_938 (by decide) ?_
      refine n_iadd X dL_law_939 ?_
      refine n_top (y := nI (i + 3)) (nI_ad i 3 rfl) ?_
      refine n_sld X hX hbl hbA (vp_in_nI (show i + 3 < L by omega) (by omega)) dL_law_940 ?_
      refine n_top (y := xs (i + 3)) (by rw [nI_clamp (show i + 3 < 2 ^ 31 by omega)]) ?_
      obtain ⟨μ1, ν1, r1, r2, hx, hm, hI1⟩ := okL_voice hL hI hi6 (xs (i + 1)) (xs (i + 2)) (xs (i + 3))
      refine n_callV X (n := 3) (List.range 85) 0 (c_X11_voice E h g hx) (capL rfl) nd85 (List.length_range.trans rfl) (ws' := (wX E h g μ1 ++ wM E h2 (fun _ => none) ν)) (putL nd85 rfl rfl) (wX_0 ..) rfl k_729 k_730 k_731 k_68 k_732 ⟨rfl, rfl⟩ hdV_X11_voice ⟨Nat.le_of_ble_eq_true rfl, Nat.le_of_ble_eq_true rfl⟩ ⟨Nat.le_of_ble_eq_true rfl, Nat.le_of_ble_eq_true rfl⟩ rfl (Nat.le_of_ble_eq_true rfl) rfl dL_law_941 ?_
      refine n_pop X dL_law_944 rfl ?_
      refine n_aload_n X dL_law_945 rfl rfl ?_
      refine n_aload_n X dL_law_946 rfl rfl ?_
      refine n_iload_n X dL_law_947 rfl rfl ?_
      refine n_iconst (v := (1 : Int32)) X dL_law_948 (by decide) ?_
      refine n_iadd X dL_law_949 ?_
      refine n_top (y := nI (i + 1)) (nI_ad i 1 rfl) ?_
      refine n_sld X hX hbl hbA (vp_in_nI (show i + 1 < L by omega) (by omega)) dL_law_950 ?_
      refine n_top (y := xs (i + 1)) (by rw [nI_clamp (show i + 1 < 2 ^ 31 by omega)]) ?_
      refine n_aload_n X dL_law_951 rfl rfl ?_
      refine n_iload_n X dL_law_952 rfl rfl ?_
      refine n_iconst (v := (2 : Int32)) X dL_law_953 (by decide) ?_
      refine n_iadd X dL_law_954 ?_
      refine n_top (y := nI (i + 2)) (nI_ad i 2 rfl) ?_
      refine n_sld X hX hbl hbA (vp_in_nI (show i + 2 < L by omega) (by omega)) dL_law_955 ?_
      refine n_top (y := xs (i + 2)) (by rw [nI_clamp (show i + 2 < 2 ^ 31 by omega)]) ?_
      refine n_aload_n X dL_law_956 rfl rfl ?_
      refine n_iload_n X dL_law_957 rfl rfl ?_
      refine n_iconst (v := (3 : Int32)) X dL_law_958 (by decide) ?_
      refine n_iadd X dL_law_959 ?_
      refine n_top (y := nI (i + 3)) (nI_ad i 3 rfl) ?_
      refine n_sld X hX hbl hbA (vp_in_nI (show i + 3 < L by omega) (by omega)) dL_law_960 ?_
      refine n_top (y := xs (i + 3)) (by rw [nI_clamp (show i + 3 < 2 ^ 31 by omega)]) ?_
      refine n_callV X (n := 3) ((List.range 14).map (fun i => 85 + i)) 0 (c_X12_voice E h2 (fun _ => none) hm) (capR rfl rfl) nd14 (by rw [List.length_map, List.length_range]; rfl) (ws' := (wX E h g μ1 ++ wM E h2 (fun _ => none) ν1)) (putR nd14a nd14 rfl rfl rfl) (wM_0 ..) rfl k_1247 k_1248 k_1249 k_80 k_1250 ⟨rfl, rfl⟩ hdV_X12_voice ⟨Nat.le_of_ble_eq_true rfl, Nat.le_of_ble_eq_true rfl⟩ ⟨Nat.le_of_ble_eq_true rfl, Nat.le_of_ble_eq_true rfl⟩ rfl (Nat.le_of_ble_eq_true rfl) rfl dL_law_961 ?_
      refine n_pop X dL_law_964 rfl ?_
      refine n_goto (tgt := 1294) X dL_law_965 (by decide) ?_
      exact tail h g μ1 ν1 rfl hI1
    by_cases n_26 : z = (26 : Int32)
    · refine n_tsI (k := (26 : Int32)) (tgt := 968) X n_26 dL_law_33 (by decide) (by decide) rfl (by decide) ?_
      refine n_aload_n X dL_law_968 rfl rfl ?_
      refine n_aload_n X dL_law_969 rfl rfl ?_
      refine n_iload_n X dL_law_970 rfl rfl ?_
      refine n_iconst (v := (1 : Int32)) X dL_law_971 (by decide) ?_
      refine n_iadd X dL_law_972 ?_
      refine n_top (y := nI (i + 1)) (nI_ad i 1 rfl) ?_
      refine n_sld X hX hbl hbA (vp_in_nI (show i + 1 < L by omega) (by omega)) dL_law_973 ?_
      refine n_top (y := xs (i + 1)) (by rw [nI_clamp (show i + 1 < 2 ^ 31 by omega)]) ?_
      obtain ⟨μ1, ν1, r1, r2, hx, hm, hI1⟩ := okL_body hL hI hi6 (xs (i + 1))
      refine n_callV X (n := 1) (List.range 85) 0 (c_X11_body E h g hx) (capL rfl) nd85 (List.length_range.trans rfl) (ws' := (wX E h g μ1 ++ wM E h2 (fun _ => none) ν)) (putL nd85 rfl rfl) (wX_0 ..) rfl k_831 k_832 k_833 k_68 k_834 ⟨rfl, rfl⟩ hdV_X11_body ⟨Nat.le_of_ble_eq_true rfl, Nat.le_of_ble_eq_true rfl⟩ ⟨Nat.le_of_ble_eq_true rfl, Nat.le_of_ble_eq_true rfl⟩ rfl (Nat.le_of_ble_eq_true rfl) rfl dL_law_974 ?_
      refine n_pop X dL_law_977 rfl ?_
      refine n_aload_n X dL_law_978 rfl rfl ?_
      refine n_aload_n X dL_law_979 rfl rfl ?_
      refine n_iload_n X dL_law_980 rfl rfl ?_
      refine n_iconst (v := (1 : Int32)) X dL_law_981 (by decide) ?_
      refine n_iadd X dL_law_982 ?_
      refine n_top (y := nI (i + 1)) (nI_ad i 1 rfl) ?_
      refine n_sld X hX hbl hbA (vp_in_nI (show i + 1 < L by omega) (by omega)) dL_law_983 ?_
      refine n_top (y := xs (i + 1)) (by rw [nI_clamp (show i + 1 < 2 ^ 31 by omega)]) ?_
      refine n_callV X (n := 1) ((List.range 14).map (fun i => 85 + i)) 0 (c_X12_body E h2 (fun _ => none) hm) (capR rfl rfl) nd14 (by rw [List.length_map, List.length_range]; rfl) (ws' := (wX E h g μ1 ++ wM E h2 (fun _ => none) ν1)) (putR nd14a nd14 rfl rfl rfl) (wM_0 ..) rfl k_1282 k_1283 k_1284 k_80 k_1285 ⟨rfl, rfl⟩ hdV_X12_body ⟨Nat.le_of_ble_eq_true rfl, Nat.le_of_ble_eq_true rfl⟩ ⟨Nat.le_of_ble_eq_true rfl, Nat.le_of_ble_eq_true rfl⟩ rfl (Nat.le_of_ble_eq_true rfl) rfl dL_law_984 ?_
      refine n_pop X dL_law_987 rfl ?_
      refine n_goto (tgt := 1294) X dL_law_988 (by decide) ?_
      exact tail h g μ1 ν1 rfl hI1
    by_cases n_27 : z = (27 : Int32)
    · refine n_tsI (k := (27 : Int32)) (tgt := 991) X n_27 dL_law_33 (by decide) (by decide) rfl (by decide) ?_
      refine n_aload_n X dL_law_991 rfl rfl ?_
      refine n_aload_n X dL_law_992 rfl rfl ?_
      refine n_iload_n X dL_law_993 rfl rfl ?_
      refine n_iconst (v := (1 : Int32)) X dL_law_994 (by decide) ?_
      refine n_iadd X dL_law_995 ?_
      refine n_top (y := nI (i + 1)) (nI_ad i 1 rfl) ?_
      refine n_sld X hX hbl hbA (vp_in_nI (show i + 1 < L by omega) (by omega)) dL_law_996 ?_
      refine n_top (y := xs (i + 1)) (by rw [nI_clamp (show i + 1 < 2 ^ 31 by omega)]) ?_
      refine n_aload_n X dL_law_997 rfl rfl ?_
      refine n_iload_n X dL_law_998 rfl rfl ?_
      refine n_iconst (v := (2 : Int32)) X dL_law_999 (by decide) ?_
      refine n_iadd X dL_law_1000 ?_
      refine n_top (y := nI (i + 2)) (nI_ad i 2 rfl) ?_
      refine n_sld X hX hbl hbA (vp_in_nI (show i + 2 < L by omega) (by omega)) dL_law_1001 ?_
      refine n_top (y := xs (i + 2)) (by rw [nI_clamp (show i + 2 < 2 ^ 31 by omega)]) ?_
      refine n_aload_n X dL_law_1002 rfl rfl ?_
      refine n_iload_n X dL_law_1003 rfl rfl ?_
      refine n_iconst (v := (3 : Int32)) X dL_law_1004 (by decide) ?_
      refine n_iadd X dL_law_1005 ?_
      refine n_top (y := nI (i + 3)) (nI_ad i 3 rfl) ?_
      refine n_sld X hX hbl hbA (vp_in_nI (show i + 3 < L by omega) (by omega)) dL_law_1006 ?_
      refine n_top (y := xs (i + 3)) (by rw [nI_clamp (show i + 3 < 2 ^ 31 by omega)]) ?_
      obtain ⟨μ1, ν1, r1, r2, hx, hm, hI1⟩ := okL_sheet hL hI hi6 (xs (i + 1)) (xs (i + 2)) (xs (i + 3))
      refine n_callV X (n := 3) (List.range 85) 0 (c_X11_sheet E h g hx) (capL rfl) nd85 (List.length_range.trans rfl) (ws' := (wX E h g μ1 ++ wM E h2 (fun _ => none) ν)) (putL nd85 rfl rfl) (wX_0 ..) rfl k_835 k_836 k_837 k_68 k_838 ⟨rfl, rfl⟩ hdV_X11_sheet ⟨Nat.le_of_ble_eq_true rfl, Nat.le_of_ble_eq_true rfl⟩ ⟨Nat.le_of_ble_eq_true rfl, Nat.le_of_ble_eq_true rfl⟩ rfl (Nat.le_of_ble_eq_true rfl) rfl dL_law_1007 ?_
      refine n_pop X dL_law_1010 rfl ?_
      refine n_aload_n X dL_law_1011 rfl rfl ?_
      refine n_aload_n X dL_law_1012 rfl rfl ?_
      refine n_iload_n X dL_law_1013 rfl rfl ?_
      refine n_iconst (v := (1 : Int32)) X dL_law_1014 (by decide) ?_
      refine n_iadd X dL_law_1015 ?_
      refine n_top (y := nI (i + 1)) (nI_ad i 1 rfl) ?_
      refine n_sld X hX hbl hbA (vp_in_nI (show i + 1 < L by omega) (by omega)) dL_law_1016 ?_
      refine n_top (y := xs (i + 1)) (by rw [nI_clamp (show i + 1 < 2 ^ 31 by omega)]) ?_
      refine n_aload_n X dL_law_1017 rfl rfl ?_
      refine n_iload_n X dL_law_1018 rfl rfl ?_
      refine n_iconst (v := (2 : Int32)) X dL_law_1019 (by decide) ?_
      refine n_iadd X dL_law_1020 ?_
      refine n_top (y := nI (i + 2)) (nI_ad i 2 rfl) ?_
      refine n_sld X hX hbl hbA (vp_in_nI (show i + 2 < L by omega) (by omega)) dL_law_1021 ?_
      refine n_top (y := xs (i + 2)) (by rw [nI_clamp (show i + 2 < 2 ^ 31 by omega)]) ?_
      refine n_aload_n X dL_law_1022 rfl rfl ?_
      refine n_iload_n X dL_law_1023 rfl rfl ?_
      refine n_iconst (v := (3 : Int32)) X dL_law_1024 (by decide) ?_
      refine n_iadd X dL_law_1025 ?_
      refine n_top (y := nI (i + 3)) (nI_ad i 3 rfl) ?_
      refine n_sld X hX hbl hbA (vp_in_nI (show i + 3 < L by omega) (by omega)) dL_law_1026 ?_
      refine n_top (y := xs (i + 3)) (by rw [nI_clamp (show i + 3 < 2 ^ 31 by omega)]) ?_
      refine n_callV X (n := 3) ((List.range 14).map (fun i => 85 + i)) 0 (c_X12_sheet E h2 (fun _ => none) hm) (capR rfl rfl) nd14 (by rw [List.length_map, List.length_range]; rfl) (ws' := (wX E h g μ1 ++ wM E h2 (fun _ => none) ν1)) (putR nd14a nd14 rfl rfl rfl) (wM_0 ..) rfl k_1286 k_1287 k_1288 k_80 k_1289 ⟨rfl, rfl⟩ hdV_X12_sheet ⟨Nat.le_of_ble_eq_true rfl, Nat.le_of_ble_eq_true rfl⟩ ⟨Nat.le_of_ble_eq_true rfl, Nat.le_of_ble_eq_true rfl⟩ rfl (Nat.le_of_ble_eq_true rfl) rfl dL_law_1027 ?_
      refine n_pop X dL_law_1030 rfl ?_
      refine n_goto (tgt := 1294) X dL_law_1031 (by decide) ?_
      exact tail h g μ1 ν1 rfl hI1
    by_cases n_28 : z = (28 : Int32)
    · refine n_tsI (k := (28 : Int32)) (tgt := 1034) X n_28 dL_law_33 (by decide) (by decide) rfl (by decide) ?_
      refine n_aload_n X dL_law_1034 rfl rfl ?_
      refine n_aload_n X dL_law_1035 rfl rfl ?_
      refine n_iload_n X dL_law_1036 rfl rfl ?_
      refine n_iconst (v := (1 : Int32)) X dL_law_1037 (by decide) ?_
      refine n_iadd X dL_law_1038 ?_
      refine n_top (y := nI (i + 1)) (nI_ad i 1 rfl) ?_
      refine n_sld X hX hbl hbA (vp_in_nI (show i + 1 < L by omega) (by omega)) dL_law_1039 ?_
      refine n_top (y := xs (i + 1)) (by rw [nI_clamp (show i + 1 < 2 ^ 31 by omega)]) ?_
      refine n_aload_n X dL_law_1040 rfl rfl ?_
      refine n_iload_n X dL_law_1041 rfl rfl ?_
      refine n_iconst (v := (2 : Int32)) X dL_law_1042 (by decide) ?_
      refine n_iadd X dL_law_1043 ?_
      refine n_top (y := nI (i + 2)) (nI_ad i 2 rfl) ?_
      refine n_sld X hX hbl hbA (vp_in_nI (show i + 2 < L by omega) (by omega)) dL_law_1044 ?_
      refine n_top (y := xs (i + 2)) (by rw [nI_clamp (show i + 2 < 2 ^ 31 by omega)]) ?_
      refine n_aload_n X dL_law_1045 rfl rfl ?_
      refine n_iload_n X dL_law_1046 rfl rfl ?_
      refine n_iconst (v := (3 : Int32)) X dL_law_1047 (by decide) ?_
      refine n_iadd X dL_law_1048 ?_
      refine n_top (y := nI (i + 3)) (nI_ad i 3 rfl) ?_
      refine n_sld X hX hbl hbA (vp_in_nI (show i + 3 < L by omega) (by omega)) dL_law_1049 ?_
      refine n_top (y := xs (i + 3)) (by rw [nI_clamp (show i + 3 < 2 ^ 31 by omega)]) ?_
      obtain ⟨μ1, ν1, r1, r2, hx, hm, hI1⟩ := okL_put hL hI hi6 (xs (i + 1)) (xs (i + 2)) (xs (i + 3))
      refine n_callV X (n := 3) (List.range 85) 0 (c_X11_put E h g hx) (capL rfl) nd85 (List.length_range.trans rfl) (ws' := (wX E h g μ1 ++ wM E h2 (fun _ => none) ν)) (putL nd85 rfl rfl) (wX_0 ..) rfl k_842 k_843 k_844 k_68 k_845 ⟨rfl, rfl⟩ hdV_X11_put ⟨Nat.le_of_ble_eq_true rfl, Nat.le_of_ble_eq_true rfl⟩ ⟨Nat.le_of_ble_eq_true rfl, Nat.le_of_ble_eq_true rfl⟩ rfl (Nat.le_of_ble_eq_true rfl) rfl dL_law_1050 ?_
      refine n_pop X dL_law_1053 rfl ?_
      refine n_aload_n X dL_law_1054 rfl rfl ?_
      refine n_aload_n X dL_law_1055 rfl rfl ?_
      refine n_iload_n X dL_law_1056 rfl rfl ?_
      refine n_iconst (v := (1 : Int32)) X dL_law_1057 (by decide) ?_
      refine n_iadd X dL_law_1058 ?_
      refine n_top (y := nI (i + 1)) (nI_ad i 1 rfl) ?_
      refine n_sld X hX hbl hbA (vp_in_nI (show i + 1 < L by omega) (by omega)) dL_law_1059 ?_
      refine n_top (y := xs (i + 1)) (by rw [nI_clamp (show i + 1 < 2 ^ 31 by omega)]) ?_
      refine n_aload_n X dL_law_1060 rfl rfl ?_
      refine n_iload_n X dL_law_1061 rfl rfl ?_
      refine n_iconst (v := (2 : Int32)) X dL_law_1062 (by decide) ?_
      refine n_iadd X dL_law_1063 ?_
      refine n_top (y := nI (i + 2)) (nI_ad i 2 rfl) ?_
      refine n_sld X hX hbl hbA (vp_in_nI (show i + 2 < L by omega) (by omega)) dL_law_1064 ?_
      refine n_top (y := xs (i + 2)) (by rw [nI_clamp (show i + 2 < 2 ^ 31 by omega)]) ?_
      refine n_aload_n X dL_law_1065 rfl rfl ?_
      refine n_iload_n X dL_law_1066 rfl rfl ?_
      refine n_iconst (v := (3 : Int32)) X dL_law_1067 (by decide) ?_
      refine n_iadd X dL_law_1068 ?_
      refine n_top (y := nI (i + 3)) (nI_ad i 3 rfl) ?_
      refine n_sld X hX hbl hbA (vp_in_nI (show i + 3 < L by omega) (by omega)) dL_law_1069 ?_
      refine n_top (y := xs (i + 3)) (by rw [nI_clamp (show i + 3 < 2 ^ 31 by omega)]) ?_
      refine n_callV X (n := 3) ((List.range 14).map (fun i => 85 + i)) 0 (c_X12_put E h2 (fun _ => none) hm) (capR rfl rfl) nd14 (by rw [List.length_map, List.length_range]; rfl) (ws' := (wX E h g μ1 ++ wM E h2 (fun _ => none) ν1)) (putR nd14a nd14 rfl rfl rfl) (wM_0 ..) rfl k_1290 k_1291 k_1292 k_80 k_1293 ⟨rfl, rfl⟩ hdV_X12_put ⟨Nat.le_of_ble_eq_true rfl, Nat.le_of_ble_eq_true rfl⟩ ⟨Nat.le_of_ble_eq_true rfl, Nat.le_of_ble_eq_true rfl⟩ rfl (Nat.le_of_ble_eq_true rfl) rfl dL_law_1070 ?_
      refine n_pop X dL_law_1073 rfl ?_
      refine n_goto (tgt := 1294) X dL_law_1074 (by decide) ?_
      exact tail h g μ1 ν1 rfl hI1
    by_cases n_29 : z = (29 : Int32)
    · refine n_tsI (k := (29 : Int32)) (tgt := 1077) X n_29 dL_law_33 (by decide) (by decide) rfl (by decide) ?_
      refine n_aload_n X dL_law_1077 rfl rfl ?_
      refine n_aload_n X dL_law_1078 rfl rfl ?_
      refine n_iload_n X dL_law_1079 rfl rfl ?_
      refine n_iconst (v := (1 : Int32)) X dL_law_1080 (by decide) ?_
      refine n_iadd X dL_law_1081 ?_
      refine n_top (y := nI (i + 1)) (nI_ad i 1 rfl) ?_
      refine n_sld X hX hbl hbA (vp_in_nI (show i + 1 < L by omega) (by omega)) dL_law_1082 ?_
      refine n_top (y := xs (i + 1)) (by rw [nI_clamp (show i + 1 < 2 ^ 31 by omega)]) ?_
      refine n_aload_n X dL_law_1083 rfl rfl ?_
      refine n_iload_n X dL_law_1084 rfl rfl ?_
      refine n_iconst (v := (2 : Int32)) X dL_law_1085 (by decide) ?_
      refine n_iadd X dL_law_1086 ?_
      refine n_top (y := nI (i + 2)) (nI_ad i 2 rfl) ?_
      refine n_sld X hX hbl hbA (vp_in_nI (show i + 2 < L by omega) (by omega)) dL_law_1087 ?_
      refine n_top (y := xs (i + 2)) (by rw [nI_clamp (show i + 2 < 2 ^ 31 by omega)]) ?_
      refine n_aload_n X dL_law_1088 rfl rfl ?_
      refine n_iload_n X dL_law_1089 rfl rfl ?_
      refine n_iconst (v := (3 : Int32)) X dL_law_1090 (by decide) ?_
      refine n_iadd X dL_law_1091 ?_
      refine n_top (y := nI (i + 3)) (nI_ad i 3 rfl) ?_
      refine n_sld X hX hbl hbA (vp_in_nI (show i + 3 < L by omega) (by omega)) dL_law_1092 ?_
      refine n_top (y := xs (i + 3)) (by rw [nI_clamp (show i + 3 < 2 ^ 31 by omega)]) ?_
      refine n_aload_n X dL_law_1093 rfl rfl ?_
      refine n_iload_n X dL_law_1094 rfl rfl ?_
      refine n_iconst (v := (4 : Int32)) X dL_law_1095 (by decide) ?_
      refine n_iadd X dL_law_1096 ?_
      refine n_top (y := nI (i + 4)) (nI_ad i 4 rfl) ?_
      refine n_sld X hX hbl hbA (vp_in_nI (show i + 4 < L by omega) (by omega)) dL_law_1097 ?_
      refine n_top (y := xs (i + 4)) (by rw [nI_clamp (show i + 4 < 2 ^ 31 by omega)]) ?_
      refine n_aload_n X dL_law_1098 rfl rfl ?_
      refine n_iload_n X dL_law_1099 rfl rfl ?_
      refine n_iconst (v := (5 : Int32)) X dL_law_1100 (by decide) ?_
      refine n_iadd X dL_law_1101 ?_
      refine n_top (y := nI (i + 5)) (nI_ad i 5 rfl) ?_
      refine n_sld X hX hbl hbA (vp_in_nI (show i + 5 < L by omega) (by omega)) dL_law_1102 ?_
      refine n_top (y := xs (i + 5)) (by rw [nI_clamp (show i + 5 < 2 ^ 31 by omega)]) ?_
      obtain ⟨μ1, ν1, r1, r2, hx, hm, hI1⟩ := okL_move hL hI hi6 (xs (i + 1)) (xs (i + 2)) (xs (i + 3)) (xs (i + 4)) (xs (i + 5))
      refine n_callV X (n := 5) (List.range 85) 0 (c_X11_move E h g hx) (capL rfl) nd85 (List.length_range.trans rfl) (ws' := (wX E h g μ1 ++ wM E h2 (fun _ => none) ν)) (putL nd85 rfl rfl) (wX_0 ..) rfl k_849 k_850 k_851 k_68 k_852 ⟨rfl, rfl⟩ hdV_X11_move ⟨Nat.le_of_ble_eq_true rfl, Nat.le_of_ble_eq_true rfl⟩ ⟨Nat.le_of_ble_eq_true rfl, Nat.le_of_ble_eq_true rfl⟩ rfl (Nat.le_of_ble_eq_true rfl) rfl dL_law_1103 ?_
      refine n_pop X dL_law_1106 rfl ?_
      refine n_aload_n X dL_law_1107 rfl rfl ?_
      refine n_aload_n X dL_law_1108 rfl rfl ?_
      refine n_iload_n X dL_law_1109 rfl rfl ?_
      refine n_iconst (v := (1 : Int32)) X dL_law_1110 (by decide) ?_
      refine n_iadd X dL_law_1111 ?_
      refine n_top (y := nI (i + 1)) (nI_ad i 1 rfl) ?_
      refine n_sld X hX hbl hbA (vp_in_nI (show i + 1 < L by omega) (by omega)) dL_law_1112 ?_
      refine n_top (y := xs (i + 1)) (by rw [nI_clamp (show i + 1 < 2 ^ 31 by omega)]) ?_
      refine n_aload_n X dL_law_1113 rfl rfl ?_
      refine n_iload_n X dL_law_1114 rfl rfl ?_
      refine n_iconst (v := (2 : Int32)) X dL_law_1115 (by decide) ?_
      refine n_iadd X dL_law_1116 ?_
      refine n_top (y := nI (i + 2)) (nI_ad i 2 rfl) ?_
      refine n_sld X hX hbl hbA (vp_in_nI (show i + 2 < L by omega) (by omega)) dL_law_1117 ?_
      refine n_top (y := xs (i + 2)) (by rw [nI_clamp (show i + 2 < 2 ^ 31 by omega)]) ?_
      refine n_aload_n X dL_law_1118 rfl rfl ?_
      refine n_iload_n X dL_law_1119 rfl rfl ?_
      refine n_iconst (v := (3 : Int32)) X dL_law_1120 (by decide) ?_
      refine n_iadd X dL_law_1121 ?_
      refine n_top (y := nI (i + 3)) (nI_ad i 3 rfl) ?_
      refine n_sld X hX hbl hbA (vp_in_nI (show i + 3 < L by omega) (by omega)) dL_law_1122 ?_
      refine n_top (y := xs (i + 3)) (by rw [nI_clamp (show i + 3 < 2 ^ 31 by omega)]) ?_
      refine n_aload_n X dL_law_1123 rfl rfl ?_
      refine n_iload_n X dL_law_1124 rfl rfl ?_
      refine n_iconst (v := (4 : Int32)) X dL_law_1125 (by decide) ?_
      refine n_iadd X dL_law_1126 ?_
      refine n_top (y := nI (i + 4)) (nI_ad i 4 rfl) ?_
      refine n_sld X hX hbl hbA (vp_in_nI (show i + 4 < L by omega) (by omega)) dL_law_1127 ?_
      refine n_top (y := xs (i + 4)) (by rw [nI_clamp (show i + 4 < 2 ^ 31 by omega)]) ?_
      refine n_aload_n X dL_law_1128 rfl rfl ?_
      refine n_iload_n X dL_law_1129 rfl rfl ?_
      refine n_iconst (v := (5 : Int32)) X dL_law_1130 (by decide) ?_
      refine n_iadd X dL_law_1131 ?_
      refine n_top (y := nI (i + 5)) (nI_ad i 5 rfl) ?_
      refine n_sld X hX hbl hbA (vp_in_nI (show i + 5 < L by omega) (by omega)) dL_law_1132 ?_
      refine n_top (y := xs (i + 5)) (by rw [nI_clamp (show i + 5 < 2 ^ 31 by omega)]) ?_
      refine n_callV X (n := 5) ((List.range 14).map (fun i => 85 + i)) 0 (c_X12_move E h2 (fun _ => none) hm) (capR rfl rfl) nd14 (by rw [List.length_map, List.length_range]; rfl) (ws' := (wX E h g μ1 ++ wM E h2 (fun _ => none) ν1)) (putR nd14a nd14 rfl rfl rfl) (wM_0 ..) rfl k_1294 k_1295 k_1296 k_80 k_1297 ⟨rfl, rfl⟩ hdV_X12_move ⟨Nat.le_of_ble_eq_true rfl, Nat.le_of_ble_eq_true rfl⟩ ⟨Nat.le_of_ble_eq_true rfl, Nat.le_of_ble_eq_true rfl⟩ rfl (Nat.le_of_ble_eq_true rfl) rfl dL_law_1133 ?_
      refine n_pop X dL_law_1136 rfl ?_
      refine n_goto (tgt := 1294) X dL_law_1137 (by decide) ?_
      exact tail h g μ1 ν1 rfl hI1
    by_cases n_30 : z = (30 : Int32)
    · refine n_tsI (k := (30 : Int32)) (tgt := 1140) X n_30 dL_law_33 (by decide) (by decide) rfl (by decide) ?_
      refine n_aload_n X dL_law_1140 rfl rfl ?_
      refine n_aload_n X dL_law_1141 rfl rfl ?_
      refine n_iload_n X dL_law_1142 rfl rfl ?_
      refine n_iconst (v := (1 : Int32)) X dL_law_1143 (by decide) ?_
      refine n_iadd X dL_law_1144 ?_
      refine n_top (y := nI (i + 1)) (nI_ad i 1 rfl) ?_
      refine n_sld X hX hbl hbA (vp_in_nI (show i + 1 < L by omega) (by omega)) dL_law_1145 ?_
      refine n_top (y := xs (i + 1)) (by rw [nI_clamp (show i + 1 < 2 ^ 31 by omega)]) ?_
      obtain ⟨μ1, ν1, r1, r2, hx, hm, hI1⟩ := okL_flies hL hI hi6 (xs (i + 1))
      refine n_callV X (n := 1) (List.range 85) 0 (c_X11_flies E h g hx) (capL rfl) nd85 (List.length_range.trans rfl) (ws' := (wX E h g μ1 ++ wM E h2 (fun _ => none) ν)) (putL nd85 rfl rfl) (wX_0 ..) rfl k_858 k_859 k_860 k_68 k_861 ⟨rfl, rfl⟩ hdV_X11_flies ⟨Nat.le_of_ble_eq_true rfl, Nat.le_of_ble_eq_true rfl⟩ ⟨Nat.le_of_ble_eq_true rfl, Nat.le_of_ble_eq_true rfl⟩ rfl (Nat.le_of_ble_eq_true rfl) rfl dL_law_1146 ?_
      refine n_pop X dL_law_1149 rfl ?_
      refine n_aload_n X dL_law_1150 rfl rfl ?_
      refine n_aload_n X dL_law_1151 rfl rfl ?_
      refine n_iload_n X dL_law_1152 rfl rfl ?_
      refine n_iconst (v := (1 : Int32)) X dL_law_1153 (by decide) ?_
      refine n_iadd X dL_law_1154 ?_
      refine n_top (y := nI (i + 1)) (nI_ad i 1 rfl) ?_
      refine n_sld X hX hbl hbA (vp_in_nI (show i + 1 < L by omega) (by omega)) dL_law_1155 ?_
      refine n_top (y := xs (i + 1)) (by rw [nI_clamp (show i + 1 < 2 ^ 31 by omega)]) ?_
      refine n_callV X (n := 1) ((List.range 14).map (fun i => 85 + i)) 0 (c_X12_flies E h2 (fun _ => none) hm) (capR rfl rfl) nd14 (by rw [List.length_map, List.length_range]; rfl) (ws' := (wX E h g μ1 ++ wM E h2 (fun _ => none) ν1)) (putR nd14a nd14 rfl rfl rfl) (wM_0 ..) rfl k_1298 k_1299 k_1300 k_80 k_1301 ⟨rfl, rfl⟩ hdV_X12_flies ⟨Nat.le_of_ble_eq_true rfl, Nat.le_of_ble_eq_true rfl⟩ ⟨Nat.le_of_ble_eq_true rfl, Nat.le_of_ble_eq_true rfl⟩ rfl (Nat.le_of_ble_eq_true rfl) rfl dL_law_1156 ?_
      refine n_pop X dL_law_1159 rfl ?_
      refine n_goto (tgt := 1294) X dL_law_1160 (by decide) ?_
      exact tail h g μ1 ν1 rfl hI1
    by_cases n_31 : z = (31 : Int32)
    · refine n_tsI (k := (31 : Int32)) (tgt := 1163) X n_31 dL_law_33 (by decide) (by decide) rfl (by decide) ?_
      refine n_aload_n X dL_law_1163 rfl rfl ?_
      refine n_aload_n X dL_law_1164 rfl rfl ?_
      refine n_iload_n X dL_law_1165 rfl rfl ?_
      refine n_iconst (v := (1 : Int32)) X dL_law_1166 (by decide) ?_
      refine n_iadd X dL_law_1167 ?_
      refine n_top (y := nI (i + 1)) (nI_ad i 1 rfl) ?_
      refine n_sld X hX hbl hbA (vp_in_nI (show i + 1 < L by omega) (by omega)) dL_law_1168 ?_
      refine n_top (y := xs (i + 1)) (by rw [nI_clamp (show i + 1 < 2 ^ 31 by omega)]) ?_
      obtain ⟨μ1, ν1, r1, r2, hx, hm, hI1⟩ := okL_judge hL hI hi6 (xs (i + 1))
      refine n_callV X (n := 1) (List.range 85) 0 (c_X11_judge E h g hx) (capL rfl) nd85 (List.length_range.trans rfl) (ws' := (wX E h g μ1 ++ wM E h2 (fun _ => none) ν)) (putL nd85 rfl rfl) (wX_0 ..) rfl k_862 k_863 k_864 k_68 k_865 ⟨rfl, rfl⟩ hdV_X11_judge ⟨Nat.le_of_ble_eq_true rfl, Nat.le_of_ble_eq_true rfl⟩ ⟨Nat.le_of_ble_eq_true rfl, Nat.le_of_ble_eq_true rfl⟩ rfl (Nat.le_of_ble_eq_true rfl) rfl dL_law_1169 ?_
      refine n_pop X dL_law_1172 rfl ?_
      refine n_aload_n X dL_law_1173 rfl rfl ?_
      refine n_aload_n X dL_law_1174 rfl rfl ?_
      refine n_iload_n X dL_law_1175 rfl rfl ?_
      refine n_iconst (v := (1 : Int32)) X dL_law_1176 (by decide) ?_
      refine n_iadd X dL_law_1177 ?_
      refine n_top (y := nI (i + 1)) (nI_ad i 1 rfl) ?_
      refine n_sld X hX hbl hbA (vp_in_nI (show i + 1 < L by omega) (by omega)) dL_law_1178 ?_
      refine n_top (y := xs (i + 1)) (by rw [nI_clamp (show i + 1 < 2 ^ 31 by omega)]) ?_
      refine n_callV X (n := 1) ((List.range 14).map (fun i => 85 + i)) 0 (c_X12_judge E h2 (fun _ => none) hm) (capR rfl rfl) nd14 (by rw [List.length_map, List.length_range]; rfl) (ws' := (wX E h g μ1 ++ wM E h2 (fun _ => none) ν1)) (putR nd14a nd14 rfl rfl rfl) (wM_0 ..) rfl k_1306 k_1307 k_1308 k_80 k_1309 ⟨rfl, rfl⟩ hdV_X12_judge ⟨Nat.le_of_ble_eq_true rfl, Nat.le_of_ble_eq_true rfl⟩ ⟨Nat.le_of_ble_eq_true rfl, Nat.le_of_ble_eq_true rfl⟩ rfl (Nat.le_of_ble_eq_true rfl) rfl dL_law_1179 ?_
      refine n_pop X dL_law_1182 rfl ?_
      refine n_goto (tgt := 1294) X dL_law_1183 (by decide) ?_
      exact tail h g μ1 ν1 rfl hI1
    by_cases n_32 : z = (32 : Int32)
    · refine n_tsI (k := (32 : Int32)) (tgt := 1186) X n_32 dL_law_33 (by decide) (by decide) rfl (by decide) ?_
      refine n_aload_n X dL_law_1186 rfl rfl ?_
      obtain ⟨μ1, ν1, r1, r2, hx, hm, hI1⟩ := okL_image hL hI hi6 
      refine n_callV X (n := 0) (List.range 85) 0 (c_X11_image E h g hx) (capL rfl) nd85 (List.length_range.trans rfl) (ws' := (wX E h g μ1 ++ wM E h2 (fun _ => none) ν)) (putL nd85 rfl rfl) (wX_0 ..) rfl k_867 k_868 k_869 k_68 k_870 ⟨rfl, rfl⟩ hdV_X11_image ⟨Nat.le_of_ble_eq_true rfl, Nat.le_of_ble_eq_true rfl⟩ ⟨Nat.le_of_ble_eq_true rfl, Nat.le_of_ble_eq_true rfl⟩ rfl (Nat.le_of_ble_eq_true rfl) rfl dL_law_1187 ?_
      refine n_pop X dL_law_1190 rfl ?_
      refine n_aload_n X dL_law_1191 rfl rfl ?_
      refine n_callV X (n := 0) ((List.range 14).map (fun i => 85 + i)) 0 (c_X12_image E h2 (fun _ => none) hm) (capR rfl rfl) nd14 (by rw [List.length_map, List.length_range]; rfl) (ws' := (wX E h g μ1 ++ wM E h2 (fun _ => none) ν1)) (putR nd14a nd14 rfl rfl rfl) (wM_0 ..) rfl k_1310 k_1311 k_1312 k_80 k_1313 ⟨rfl, rfl⟩ hdV_X12_image ⟨Nat.le_of_ble_eq_true rfl, Nat.le_of_ble_eq_true rfl⟩ ⟨Nat.le_of_ble_eq_true rfl, Nat.le_of_ble_eq_true rfl⟩ rfl (Nat.le_of_ble_eq_true rfl) rfl dL_law_1192 ?_
      refine n_pop X dL_law_1195 rfl ?_
      refine n_goto (tgt := 1294) X dL_law_1196 (by decide) ?_
      exact tail h g μ1 ν1 rfl hI1
    by_cases n_33 : z = (33 : Int32)
    · refine n_tsI (k := (33 : Int32)) (tgt := 1199) X n_33 dL_law_33 (by decide) (by decide) rfl (by decide) ?_
      refine n_aload_n X dL_law_1199 rfl rfl ?_
      obtain ⟨μ1, ν1, r1, r2, hx, hm, hI1⟩ := okL_restore hL hI hi6 
      refine n_callV X (n := 0) (List.range 85) 0 (c_X11_restore E h g hx) (capL rfl) nd85 (List.length_range.trans rfl) (ws' := (wX E h g μ1 ++ wM E h2 (fun _ => none) ν)) (putL nd85 rfl rfl) (wX_0 ..) rfl k_882 k_883 k_884 k_68 k_885 ⟨rfl, rfl⟩ hdV_X11_restore ⟨Nat.le_of_ble_eq_true rfl, Nat.le_of_ble_eq_true rfl⟩ ⟨Nat.le_of_ble_eq_true rfl, Nat.le_of_ble_eq_true rfl⟩ rfl (Nat.le_of_ble_eq_true rfl) rfl dL_law_1200 ?_
      refine n_pop X dL_law_1203 rfl ?_
      refine n_aload_n X dL_law_1204 rfl rfl ?_
      refine n_callV X (n := 0) ((List.range 14).map (fun i => 85 + i)) 0 (c_X12_restore E h2 (fun _ => none) hm) (capR rfl rfl) nd14 (by rw [List.length_map, List.length_range]; rfl) (ws' := (wX E h g μ1 ++ wM E h2 (fun _ => none) ν1)) (putR nd14a nd14 rfl rfl rfl) (wM_0 ..) rfl k_1317 k_1318 k_1319 k_80 k_1320 ⟨rfl, rfl⟩ hdV_X12_restore ⟨Nat.le_of_ble_eq_true rfl, Nat.le_of_ble_eq_true rfl⟩ ⟨Nat.le_of_ble_eq_true rfl, Nat.le_of_ble_eq_true rfl⟩ rfl (Nat.le_of_ble_eq_true rfl) rfl dL_law_1205 ?_
      refine n_pop X dL_law_1208 rfl ?_
      refine n_goto (tgt := 1294) X dL_law_1209 (by decide) ?_
      exact tail h g μ1 ν1 rfl hI1
    by_cases n_34 : z = (34 : Int32)
    · refine n_tsI (k := (34 : Int32)) (tgt := 1212) X n_34 dL_law_33 (by decide) (by decide) rfl (by decide) ?_
      refine n_aload_n X dL_law_1212 rfl rfl ?_
      refine n_aload_n X dL_law_1213 rfl rfl ?_
      refine n_iload_n X dL_law_1214 rfl rfl ?_
      refine n_iconst (v := (1 : Int32)) X dL_law_1215 (by decide) ?_
      refine n_iadd X dL_law_1216 ?_
      refine n_top (y := nI (i + 1)) (nI_ad i 1 rfl) ?_
      refine n_sld X hX hbl hbA (vp_in_nI (show i + 1 < L by omega) (by omega)) dL_law_1217 ?_
      refine n_top (y := xs (i + 1)) (by rw [nI_clamp (show i + 1 < 2 ^ 31 by omega)]) ?_
      obtain ⟨μ1, ν1, r1, r2, hx, hm, hI1⟩ := okL_tell hL hI hi6 (xs (i + 1))
      refine n_callV X (n := 1) (List.range 85) 0 (c_X11_tell E h g hx) (capL rfl) nd85 (List.length_range.trans rfl) (ws' := (wX E h g μ1 ++ wM E h2 (fun _ => none) ν)) (putL nd85 rfl rfl) (wX_0 ..) rfl k_886 k_887 k_888 k_68 k_889 ⟨rfl, rfl⟩ hdV_X11_tell ⟨Nat.le_of_ble_eq_true rfl, Nat.le_of_ble_eq_true rfl⟩ ⟨Nat.le_of_ble_eq_true rfl, Nat.le_of_ble_eq_true rfl⟩ rfl (Nat.le_of_ble_eq_true rfl) rfl dL_law_1218 ?_
      refine n_pop X dL_law_1221 rfl ?_
      refine n_aload_n X dL_law_1222 rfl rfl ?_
      refine n_aload_n X dL_law_1223 rfl rfl ?_
      refine n_iload_n X dL_law_1224 rfl rfl ?_
      refine n_iconst (v := (1 : Int32)) X dL_law_1225 (by decide) ?_
      refine n_iadd X dL_law_1226 ?_
      refine n_top (y := nI (i + 1)) (nI_ad i 1 rfl) ?_
      refine n_sld X hX hbl hbA (vp_in_nI (show i + 1 < L by omega) (by omega)) dL_law_1227 ?_
      refine n_top (y := xs (i + 1)) (by rw [nI_clamp (show i + 1 < 2 ^ 31 by omega)]) ?_
      refine n_callV X (n := 1) ((List.range 14).map (fun i => 85 + i)) 0 (c_X12_tell E h2 (fun _ => none) hm) (capR rfl rfl) nd14 (by rw [List.length_map, List.length_range]; rfl) (ws' := (wX E h g μ1 ++ wM E h2 (fun _ => none) ν1)) (putR nd14a nd14 rfl rfl rfl) (wM_0 ..) rfl k_1321 k_1322 k_1323 k_80 k_1324 ⟨rfl, rfl⟩ hdV_X12_tell ⟨Nat.le_of_ble_eq_true rfl, Nat.le_of_ble_eq_true rfl⟩ ⟨Nat.le_of_ble_eq_true rfl, Nat.le_of_ble_eq_true rfl⟩ rfl (Nat.le_of_ble_eq_true rfl) rfl dL_law_1228 ?_
      refine n_pop X dL_law_1231 rfl ?_
      refine n_goto (tgt := 1294) X dL_law_1232 (by decide) ?_
      exact tail h g μ1 ν1 rfl hI1
    by_cases n_35 : z = (35 : Int32)
    · refine n_tsI (k := (35 : Int32)) (tgt := 1235) X n_35 dL_law_33 (by decide) (by decide) rfl (by decide) ?_
      refine n_aload_n X dL_law_1235 rfl rfl ?_
      obtain ⟨μ1, ν1, r1, r2, hx, hm, hr, hI1⟩ := okL_check hL hI hi6 
      refine n_callV X (n := 0) (List.range 85) 0 (c_X11_check E h g hx) (capL rfl) nd85 (List.length_range.trans rfl) (ws' := (wX E h g μ1 ++ wM E h2 (fun _ => none) ν)) (putL nd85 rfl rfl) (wX_0 ..) rfl k_890 k_891 k_892 k_68 k_893 ⟨rfl, rfl⟩ hdV_X11_check ⟨Nat.le_of_ble_eq_true rfl, Nat.le_of_ble_eq_true rfl⟩ ⟨Nat.le_of_ble_eq_true rfl, Nat.le_of_ble_eq_true rfl⟩ rfl (Nat.le_of_ble_eq_true rfl) rfl dL_law_1236 ?_
      refine n_aload_n X dL_law_1239 rfl rfl ?_
      refine n_callV X (n := 0) ((List.range 14).map (fun i => 85 + i)) 0 (c_X12_check E h2 (fun _ => none) hm) (capR rfl rfl) nd14 (by rw [List.length_map, List.length_range]; rfl) (ws' := (wX E h g μ1 ++ wM E h2 (fun _ => none) ν1)) (putR nd14a nd14 rfl rfl rfl) (wM_0 ..) rfl k_1325 k_1326 k_1327 k_80 k_1328 ⟨rfl, rfl⟩ hdV_X12_check ⟨Nat.le_of_ble_eq_true rfl, Nat.le_of_ble_eq_true rfl⟩ ⟨Nat.le_of_ble_eq_true rfl, Nat.le_of_ble_eq_true rfl⟩ rfl (Nat.le_of_ble_eq_true rfl) rfl dL_law_1240 ?_
      refine n_icmp_eq (tgt := 1294) X dL_law_1243 (by decide) (fun _ => ?_) (fun q => absurd hr q)
      exact tail h g μ1 ν1 rfl hI1
    by_cases n_36 : z = (36 : Int32)
    · refine n_tsI (k := (36 : Int32)) (tgt := 1248) X n_36 dL_law_33 (by decide) (by decide) rfl (by decide) ?_
      refine n_aload_n X dL_law_1248 rfl rfl ?_
      refine n_aload_n X dL_law_1249 rfl rfl ?_
      refine n_iload_n X dL_law_1250 rfl rfl ?_
      refine n_iconst (v := (1 : Int32)) X dL_law_1251 (by decide) ?_
      refine n_iadd X dL_law_1252 ?_
      refine n_top (y := nI (i + 1)) (nI_ad i 1 rfl) ?_
      refine n_sld X hX hbl hbA (vp_in_nI (show i + 1 < L by omega) (by omega)) dL_law_1253 ?_
      refine n_top (y := xs (i + 1)) (by rw [nI_clamp (show i + 1 < 2 ^ 31 by omega)]) ?_
      obtain ⟨μ1, ν1, r1, r2, hx, hm, hI1⟩ := okL_count hL hI hi6 (xs (i + 1))
      refine n_callV X (n := 1) (List.range 85) 0 (c_X11_count E h g hx) (capL rfl) nd85 (List.length_range.trans rfl) (ws' := (wX E h g μ1 ++ wM E h2 (fun _ => none) ν)) (putL nd85 rfl rfl) (wX_0 ..) rfl k_894 k_895 k_896 k_68 k_897 ⟨rfl, rfl⟩ hdV_X11_count ⟨Nat.le_of_ble_eq_true rfl, Nat.le_of_ble_eq_true rfl⟩ ⟨Nat.le_of_ble_eq_true rfl, Nat.le_of_ble_eq_true rfl⟩ rfl (Nat.le_of_ble_eq_true rfl) rfl dL_law_1254 ?_
      refine n_pop X dL_law_1257 rfl ?_
      refine n_aload_n X dL_law_1258 rfl rfl ?_
      refine n_aload_n X dL_law_1259 rfl rfl ?_
      refine n_iload_n X dL_law_1260 rfl rfl ?_
      refine n_iconst (v := (1 : Int32)) X dL_law_1261 (by decide) ?_
      refine n_iadd X dL_law_1262 ?_
      refine n_top (y := nI (i + 1)) (nI_ad i 1 rfl) ?_
      refine n_sld X hX hbl hbA (vp_in_nI (show i + 1 < L by omega) (by omega)) dL_law_1263 ?_
      refine n_top (y := xs (i + 1)) (by rw [nI_clamp (show i + 1 < 2 ^ 31 by omega)]) ?_
      refine n_callV X (n := 1) ((List.range 14).map (fun i => 85 + i)) 0 (c_X12_count E h2 (fun _ => none) hm) (capR rfl rfl) nd14 (by rw [List.length_map, List.length_range]; rfl) (ws' := (wX E h g μ1 ++ wM E h2 (fun _ => none) ν1)) (putR nd14a nd14 rfl rfl rfl) (wM_0 ..) rfl k_1329 k_1330 k_1331 k_80 k_1332 ⟨rfl, rfl⟩ hdV_X12_count ⟨Nat.le_of_ble_eq_true rfl, Nat.le_of_ble_eq_true rfl⟩ ⟨Nat.le_of_ble_eq_true rfl, Nat.le_of_ble_eq_true rfl⟩ rfl (Nat.le_of_ble_eq_true rfl) rfl dL_law_1264 ?_
      refine n_pop X dL_law_1267 rfl ?_
      refine n_goto (tgt := 1294) X dL_law_1268 (by decide) ?_
      exact tail h g μ1 ν1 rfl hI1
    by_cases n_37 : z = (37 : Int32)
    · refine n_tsI (k := (37 : Int32)) (tgt := 1271) X n_37 dL_law_33 (by decide) (by decide) rfl (by decide) ?_
      refine n_aload_n X dL_law_1271 rfl rfl ?_
      refine n_aload_n X dL_law_1272 rfl rfl ?_
      refine n_iload_n X dL_law_1273 rfl rfl ?_
      refine n_iconst (v := (1 : Int32)) X dL_law_1274 (by decide) ?_
      refine n_iadd X dL_law_1275 ?_
      refine n_top (y := nI (i + 1)) (nI_ad i 1 rfl) ?_
      refine n_sld X hX hbl hbA (vp_in_nI (show i + 1 < L by omega) (by omega)) dL_law_1276 ?_
      refine n_top (y := xs (i + 1)) (by rw [nI_clamp (show i + 1 < 2 ^ 31 by omega)]) ?_
      obtain ⟨μ1, ν1, r1, r2, hx, hm, hI1⟩ := okL_told hL hI hi6 (xs (i + 1))
      refine n_callV X (n := 1) (List.range 85) 0 (c_X11_told E h g hx) (capL rfl) nd85 (List.length_range.trans rfl) (ws' := (wX E h g μ1 ++ wM E h2 (fun _ => none) ν)) (putL nd85 rfl rfl) (wX_0 ..) rfl k_902 k_903 k_904 k_68 k_905 ⟨rfl, rfl⟩ hdV_X11_told ⟨Nat.le_of_ble_eq_true rfl, Nat.le_of_ble_eq_true rfl⟩ ⟨Nat.le_of_ble_eq_true rfl, Nat.le_of_ble_eq_true rfl⟩ rfl (Nat.le_of_ble_eq_true rfl) rfl dL_law_1277 ?_
      refine n_pop X dL_law_1280 rfl ?_
      refine n_aload_n X dL_law_1281 rfl rfl ?_
      refine n_aload_n X dL_law_1282 rfl rfl ?_
      refine n_iload_n X dL_law_1283 rfl rfl ?_
      refine n_iconst (v := (1 : Int32)) X dL_law_1284 (by decide) ?_
      refine n_iadd X dL_law_1285 ?_
      refine n_top (y := nI (i + 1)) (nI_ad i 1 rfl) ?_
      refine n_sld X hX hbl hbA (vp_in_nI (show i + 1 < L by omega) (by omega)) dL_law_1286 ?_
      refine n_top (y := xs (i + 1)) (by rw [nI_clamp (show i + 1 < 2 ^ 31 by omega)]) ?_
      refine n_callV X (n := 1) ((List.range 14).map (fun i => 85 + i)) 0 (c_X12_told E h2 (fun _ => none) hm) (capR rfl rfl) nd14 (by rw [List.length_map, List.length_range]; rfl) (ws' := (wX E h g μ1 ++ wM E h2 (fun _ => none) ν1)) (putR nd14a nd14 rfl rfl rfl) (wM_0 ..) rfl k_1333 k_1334 k_1335 k_80 k_1336 ⟨rfl, rfl⟩ hdV_X12_told ⟨Nat.le_of_ble_eq_true rfl, Nat.le_of_ble_eq_true rfl⟩ ⟨Nat.le_of_ble_eq_true rfl, Nat.le_of_ble_eq_true rfl⟩ rfl (Nat.le_of_ble_eq_true rfl) rfl dL_law_1287 ?_
      refine n_pop X dL_law_1290 rfl ?_
      refine n_goto (tgt := 1294) X dL_law_1291 (by decide) ?_
      exact tail h g μ1 ν1 rfl hI1
    refine n_tsD (tgt := 1294) X [0, 1, 2, 3, 4, 5, 6, 7, 8, 9, 10, 11, 12, 13, 14, 15, 16, 17, 18, 19, 20, 21, 22, 23, 24, 25, 26, 27, 28, 29, 30, 31, 32, 33, 34, 35, 36, 37] (List.forall_mem_cons.mpr ⟨lv_neT n_0 (a := 0) rfl, List.forall_mem_cons.mpr ⟨lv_neT n_1 (a := 1) rfl, List.forall_mem_cons.mpr ⟨lv_neT n_2 (a := 2) rfl, List.forall_mem_cons.mpr ⟨lv_neT n_3 (a := 3) rfl, List.forall_mem_cons.mpr ⟨lv_neT n_4 (a := 4) rfl, List.forall_mem_cons.mpr ⟨lv_neT n_5 (a := 5) rfl, List.forall_mem_cons.mpr ⟨lv_neT n_6 (a := 6) rfl, List.forall_mem_cons.mpr ⟨lv_neT n_7 (a := 7) rfl, List.forall_mem_cons.mpr ⟨lv_neT n_8 (a := 8) rfl, List.forall_mem_cons.mpr ⟨lv_neT n_9 (a := 9) rfl, List.forall_mem_cons.mpr ⟨lv_neT n_10 (a := 10) rfl, List.forall_mem_cons.mpr ⟨lv_neT n_11 (a := 11) rfl, List.forall_mem_cons.mpr ⟨lv_neT n_12 (a := 12) rfl, List.forall_mem_cons.mpr ⟨lv_neT n_13 (a := 13) rfl, List.forall_mem_cons.mpr ⟨lv_neT n_14 (a := 14) rfl, List.forall_mem_cons.mpr ⟨lv_neT n_15 (a := 15) rfl, List.forall_mem_cons.mpr ⟨lv_neT n_16 (a := 16) rfl, List.forall_mem_cons.mpr ⟨lv_neT n_17 (a := 17) rfl, List.forall_mem_cons.mpr ⟨lv_neT n_18 (a := 18) rfl, List.forall_mem_cons.mpr ⟨lv_neT n_19 (a := 19) rfl, List.forall_mem_cons.mpr ⟨lv_neT n_20 (a := 20) rfl, List.forall_mem_cons.mpr ⟨lv_neT n_21 (a := 21) rfl, List.forall_mem_cons.mpr ⟨lv_neT n_22 (a := 22) rfl, List.forall_mem_cons.mpr ⟨lv_neT n_23 (a := 23) rfl, List.forall_mem_cons.mpr ⟨lv_neT n_24 (a := 24) rfl, List.forall_mem_cons.mpr ⟨lv_neT n_25 (a := 25) rfl, List.forall_mem_cons.mpr ⟨lv_neT n_26 (a := 26) rfl, List.forall_mem_cons.mpr ⟨lv_neT n_27 (a := 27) rfl, List.forall_mem_cons.mpr ⟨lv_neT n_28 (a := 28) rfl, List.forall_mem_cons.mpr ⟨lv_neT n_29 (a := 29) rfl, List.forall_mem_cons.mpr ⟨lv_neT n_30 (a := 30) rfl, List.forall_mem_cons.mpr ⟨lv_neT n_31 (a := 31) rfl, List.forall_mem_cons.mpr ⟨lv_neT n_32 (a := 32) rfl, List.forall_mem_cons.mpr ⟨lv_neT n_33 (a := 33) rfl, List.forall_mem_cons.mpr ⟨lv_neT n_34 (a := 34) rfl, List.forall_mem_cons.mpr ⟨lv_neT n_35 (a := 35) rfl, List.forall_mem_cons.mpr ⟨lv_neT n_36 (a := 36) rfl, List.forall_mem_cons.mpr ⟨lv_neT n_37 (a := 37) rfl, fun _ h => by cases h⟩⟩⟩⟩⟩⟩⟩⟩⟩⟩⟩⟩⟩⟩⟩⟩⟩⟩⟩⟩⟩⟩⟩⟩⟩⟩⟩⟩⟩⟩⟩⟩⟩⟩⟩⟩⟩⟩) (by decide) (by decide) dL_law_33 (by decide) ?_
    exact tail h g μ ν rfl (inv_skip hI hi6)
