/-! PART 61: the law's cases: the class's answer and the reference's, compared -/
abbrev M_L_law : z_M := (yL_law, cL_law, 7, some .boolean)
theorem lg_same {x y : Int64} (h : x = y) : lg_cmp x y = 0 := by subst h; simp [lg_cmp]
set_option maxRecDepth 100000 in
set_option maxHeartbeats 4000000 in
theorem lw_add {d : Nat} {σ σ1 σ2 : Nat → Nat → Int32} {τ τ1 : Nat → Nat → Int64} {Qx : z_QT} {b L j mc ms rc rs rc' rs' mc' ms' : Nat} {xs : Nat → Int32} {k y : Int32} {w5 w6 : Option Value} (hj : j + 4 ≤ L) (hL : L ≤ 2048) (hsp : z_HV M_L_add H_L_add d mc' ms' [.ref 0, .int (xs (j + 1)), .int (xs (j + 2)), .ref 123] (124, z_r0, σ, τ) (some (.int k)) (124, z_r0, σ1, τ1)) (hrp : z_MV M_X11_add d 0 0 [.ref 92, .int (xs (j + 1)), .int (xs (j + 2))] (124, z_r0, σ1, τ1) (some (.int y)) (124, z_r0, σ2, τ1)) (hk : σ2 92 0 = k) (hy : k = 0 → τ1 123 0 = y.toInt64) (hbud : mc' + rc' ≤ rc ∧ ms' + rs' ≤ rs) (kk : ∀ w5 w6 : Option Value, z_Y (z_lc b L xs) Qx b M_L_law (d + 1) mc ms rc' rs' 709 [none, some (.ref 0), some (.ref 92), some (.ref 123), some (.int (nI j)), w5, w6] [] (124, z_r0, σ2, τ1)) : z_Y (z_lc b L xs) Qx b M_L_law (d + 1) mc ms rc rs 96 [none, some (.ref 0), some (.ref 92), some (.ref 123), some (.int (nI j)), w5, w6] [] (124, z_r0, σ, τ) := by
  refine zy_aload_n dL_law_96 rfl rfl ?_
  refine zy_scr (k := 1) (j := j) dL_law_97 dL_law_98 dL_law_100 dL_law_101 dL_law_102 (by decide) rfl (by omega) hL ?_
  refine zy_scr (k := 2) (j := j) dL_law_103 dL_law_104 dL_law_106 dL_law_107 dL_law_108 (by decide) rfl (by omega) hL ?_
  refine zy_aload_n dL_law_109 rfl rfl ?_
  refine zy_callH (rc' := rc') (rs' := rs') dL_law_110 ml_L_49 hsp rfl rfl (Nat.le_of_ble_eq_true rfl) hbud ?_
  refine zy_istore dL_law_113 (by decide) (by decide) ?_
  show z_Y _ _ _ _ _ _ _ _ _ _ [_, _, _, _, _, _, _] _ _
  refine zy_aload_n dL_law_115 rfl rfl ?_
  refine zy_scr (k := 1) (j := j) dL_law_116 dL_law_117 dL_law_119 dL_law_120 dL_law_121 (by decide) rfl (by omega) hL ?_
  refine zy_scr (k := 2) (j := j) dL_law_122 dL_law_123 dL_law_125 dL_law_126 dL_law_127 (by decide) rfl (by omega) hL ?_
  refine zy_cV1 dL_law_128 ml_L_54 (hrp) rfl ⟨by decide, rfl⟩ rfl rfl (Nat.le_of_ble_eq_true rfl) ?_
  refine zy_istore dL_law_131 (by decide) (by decide) ?_
  show z_Y _ _ _ _ _ _ _ _ _ _ [_, _, _, _, _, _, _] _ _
  refine zy_aload_n dL_law_133 rfl rfl ?_
  refine zy_cV1 dL_law_134 ml_L_55 (sp_thrown) rfl ⟨by decide, rfl⟩ rfl rfl (Nat.le_of_ble_eq_true rfl) ?_
  refine zy_iload dL_law_137 rfl ?_
  refine zy_icmp_eq (tgt := 144) dL_law_139 (by decide) (fun _ => ?_) (fun c_ => absurd (hk) c_)
  refine zy_iload dL_law_144 rfl ?_
  refine zy_if_ne (tgt := 161) dL_law_146 (by decide) (fun c146 => ?_) (fun c146 => ?_)
  · refine zy_goto (tgt := 709) dL_law_161 (by decide) ?_
    exact kk _ _
  · refine zy_aload_n dL_law_149 rfl rfl ?_
    refine zy_iconst (v := 0) dL_law_150 (by decide) ?_
    refine zy_lald (j := 0) dL_law_151 rfl nI_0.symm (by decide) rfl ?_
    refine zy_iload dL_law_152 rfl ?_
    refine zy_i2l dL_law_154 rfl ?_
    refine zy_lcmp dL_law_155 ?_
    refine zy_if_eq (tgt := 161) dL_law_156 (by decide) (fun _ => ?_) (fun c_ => absurd (lg_same (hy c146)) c_)
    refine zy_goto (tgt := 709) dL_law_161 (by decide) ?_
    exact kk _ _
set_option maxRecDepth 100000 in
set_option maxHeartbeats 4000000 in
theorem lw_run {d : Nat} {σ σ1 σ2 : Nat → Nat → Int32} {τ τ1 : Nat → Nat → Int64} {Qx : z_QT} {b L j mc ms rc rs rc' rs' mc' ms' : Nat} {xs : Nat → Int32} {k y : Int32} {w5 w6 : Option Value} (hj : j + 4 ≤ L) (hL : L ≤ 2048) (hsp : z_HV M_L_run H_L_run d mc' ms' [.ref 0, .int (xs (j + 1)), .ref 123] (124, z_r0, σ, τ) (some (.int k)) (124, z_r0, σ1, τ1)) (hrp : z_MV M_X11_run d 0 0 [.ref 92, .int (xs (j + 1))] (124, z_r0, σ1, τ1) (some (.int y)) (124, z_r0, σ2, τ1)) (hk : σ2 92 0 = k) (hy : k = 0 → τ1 123 0 = y.toInt64) (hbud : mc' + rc' ≤ rc ∧ ms' + rs' ≤ rs) (kk : ∀ w5 w6 : Option Value, z_Y (z_lc b L xs) Qx b M_L_law (d + 1) mc ms rc' rs' 709 [none, some (.ref 0), some (.ref 92), some (.ref 123), some (.int (nI j)), w5, w6] [] (124, z_r0, σ2, τ1)) : z_Y (z_lc b L xs) Qx b M_L_law (d + 1) mc ms rc rs 267 [none, some (.ref 0), some (.ref 92), some (.ref 123), some (.int (nI j)), w5, w6] [] (124, z_r0, σ, τ) := by
  refine zy_aload_n dL_law_267 rfl rfl ?_
  refine zy_scr (k := 1) (j := j) dL_law_268 dL_law_269 dL_law_271 dL_law_272 dL_law_273 (by decide) rfl (by omega) hL ?_
  refine zy_aload_n dL_law_274 rfl rfl ?_
  refine zy_callH (rc' := rc') (rs' := rs') dL_law_275 ml_L_63 hsp rfl rfl (Nat.le_of_ble_eq_true rfl) hbud ?_
  refine zy_istore dL_law_278 (by decide) (by decide) ?_
  show z_Y _ _ _ _ _ _ _ _ _ _ [_, _, _, _, _, _, _] _ _
  refine zy_aload_n dL_law_280 rfl rfl ?_
  refine zy_scr (k := 1) (j := j) dL_law_281 dL_law_282 dL_law_284 dL_law_285 dL_law_286 (by decide) rfl (by omega) hL ?_
  refine zy_cV1 dL_law_287 ml_L_66 (hrp) rfl ⟨by decide, rfl⟩ rfl rfl (Nat.le_of_ble_eq_true rfl) ?_
  refine zy_istore dL_law_290 (by decide) (by decide) ?_
  show z_Y _ _ _ _ _ _ _ _ _ _ [_, _, _, _, _, _, _] _ _
  refine zy_aload_n dL_law_292 rfl rfl ?_
  refine zy_cV1 dL_law_293 ml_L_55 (sp_thrown) rfl ⟨by decide, rfl⟩ rfl rfl (Nat.le_of_ble_eq_true rfl) ?_
  refine zy_iload dL_law_296 rfl ?_
  refine zy_icmp_eq (tgt := 303) dL_law_298 (by decide) (fun _ => ?_) (fun c_ => absurd (hk) c_)
  refine zy_iload dL_law_303 rfl ?_
  refine zy_if_ne (tgt := 320) dL_law_305 (by decide) (fun c305 => ?_) (fun c305 => ?_)
  · refine zy_goto (tgt := 709) dL_law_320 (by decide) ?_
    exact kk _ _
  · refine zy_aload_n dL_law_308 rfl rfl ?_
    refine zy_iconst (v := 0) dL_law_309 (by decide) ?_
    refine zy_lald (j := 0) dL_law_310 rfl nI_0.symm (by decide) rfl ?_
    refine zy_iload dL_law_311 rfl ?_
    refine zy_i2l dL_law_313 rfl ?_
    refine zy_lcmp dL_law_314 ?_
    refine zy_if_eq (tgt := 320) dL_law_315 (by decide) (fun _ => ?_) (fun c_ => absurd (lg_same (hy c305)) c_)
    refine zy_goto (tgt := 709) dL_law_320 (by decide) ?_
    exact kk _ _
set_option maxRecDepth 100000 in
set_option maxHeartbeats 4000000 in
theorem lw_local {d : Nat} {σ σ1 σ2 : Nat → Nat → Int32} {τ τ1 : Nat → Nat → Int64} {Qx : z_QT} {b L j mc ms rc rs rc' rs' mc' ms' : Nat} {xs : Nat → Int32} {k y : Int32} {w5 w6 : Option Value} (hj : j + 4 ≤ L) (hL : L ≤ 2048) (hsp : z_HV M_L_local H_L_local d mc' ms' [.ref 0, .int (xs (j + 1)), .ref 123] (124, z_r0, σ, τ) (some (.int k)) (124, z_r0, σ1, τ1)) (hrp : z_MV M_X11_local d 0 0 [.ref 92, .int (xs (j + 1))] (124, z_r0, σ1, τ1) (some (.int y)) (124, z_r0, σ2, τ1)) (hk : σ2 92 0 = k) (hy : k = 0 → τ1 123 0 = y.toInt64) (hbud : mc' + rc' ≤ rc ∧ ms' + rs' ≤ rs) (kk : ∀ w5 w6 : Option Value, z_Y (z_lc b L xs) Qx b M_L_law (d + 1) mc ms rc' rs' 709 [none, some (.ref 0), some (.ref 92), some (.ref 123), some (.int (nI j)), w5, w6] [] (124, z_r0, σ2, τ1)) : z_Y (z_lc b L xs) Qx b M_L_law (d + 1) mc ms rc rs 336 [none, some (.ref 0), some (.ref 92), some (.ref 123), some (.int (nI j)), w5, w6] [] (124, z_r0, σ, τ) := by
  refine zy_aload_n dL_law_336 rfl rfl ?_
  refine zy_scr (k := 1) (j := j) dL_law_337 dL_law_338 dL_law_340 dL_law_341 dL_law_342 (by decide) rfl (by omega) hL ?_
  refine zy_aload_n dL_law_343 rfl rfl ?_
  refine zy_callH (rc' := rc') (rs' := rs') dL_law_344 ml_L_71 hsp rfl rfl (Nat.le_of_ble_eq_true rfl) hbud ?_
  refine zy_istore dL_law_347 (by decide) (by decide) ?_
  show z_Y _ _ _ _ _ _ _ _ _ _ [_, _, _, _, _, _, _] _ _
  refine zy_aload_n dL_law_349 rfl rfl ?_
  refine zy_scr (k := 1) (j := j) dL_law_350 dL_law_351 dL_law_353 dL_law_354 dL_law_355 (by decide) rfl (by omega) hL ?_
  refine zy_cV1 dL_law_356 ml_L_73 (hrp) rfl ⟨by decide, rfl⟩ rfl rfl (Nat.le_of_ble_eq_true rfl) ?_
  refine zy_istore dL_law_359 (by decide) (by decide) ?_
  show z_Y _ _ _ _ _ _ _ _ _ _ [_, _, _, _, _, _, _] _ _
  refine zy_aload_n dL_law_361 rfl rfl ?_
  refine zy_cV1 dL_law_362 ml_L_55 (sp_thrown) rfl ⟨by decide, rfl⟩ rfl rfl (Nat.le_of_ble_eq_true rfl) ?_
  refine zy_iload dL_law_365 rfl ?_
  refine zy_icmp_eq (tgt := 372) dL_law_367 (by decide) (fun _ => ?_) (fun c_ => absurd (hk) c_)
  refine zy_iload dL_law_372 rfl ?_
  refine zy_if_ne (tgt := 389) dL_law_374 (by decide) (fun c374 => ?_) (fun c374 => ?_)
  · refine zy_goto (tgt := 709) dL_law_389 (by decide) ?_
    exact kk _ _
  · refine zy_aload_n dL_law_377 rfl rfl ?_
    refine zy_iconst (v := 0) dL_law_378 (by decide) ?_
    refine zy_lald (j := 0) dL_law_379 rfl nI_0.symm (by decide) rfl ?_
    refine zy_iload dL_law_380 rfl ?_
    refine zy_i2l dL_law_382 rfl ?_
    refine zy_lcmp dL_law_383 ?_
    refine zy_if_eq (tgt := 389) dL_law_384 (by decide) (fun _ => ?_) (fun c_ => absurd (lg_same (hy c374)) c_)
    refine zy_goto (tgt := 709) dL_law_389 (by decide) ?_
    exact kk _ _
set_option maxRecDepth 100000 in
set_option maxHeartbeats 4000000 in
theorem lw_top {d : Nat} {σ σ1 σ2 : Nat → Nat → Int32} {τ τ1 : Nat → Nat → Int64} {Qx : z_QT} {b L j mc ms rc rs rc' rs' mc' ms' : Nat} {xs : Nat → Int32} {k y : Int32} {w5 w6 : Option Value} (hj : j + 4 ≤ L) (hL : L ≤ 2048) (hsp : z_HV M_L_top H_L_top d mc' ms' [.ref 0, .int (xs (j + 1)), .ref 123] (124, z_r0, σ, τ) (some (.int k)) (124, z_r0, σ1, τ1)) (hrp : z_MV M_X11_top d 0 0 [.ref 92, .int (xs (j + 1))] (124, z_r0, σ1, τ1) (some (.int y)) (124, z_r0, σ2, τ1)) (hk : σ2 92 0 = k) (hy : k = 0 → τ1 123 0 = y.toInt64) (hbud : mc' + rc' ≤ rc ∧ ms' + rs' ≤ rs) (kk : ∀ w5 w6 : Option Value, z_Y (z_lc b L xs) Qx b M_L_law (d + 1) mc ms rc' rs' 709 [none, some (.ref 0), some (.ref 92), some (.ref 123), some (.int (nI j)), w5, w6] [] (124, z_r0, σ2, τ1)) : z_Y (z_lc b L xs) Qx b M_L_law (d + 1) mc ms rc rs 392 [none, some (.ref 0), some (.ref 92), some (.ref 123), some (.int (nI j)), w5, w6] [] (124, z_r0, σ, τ) := by
  refine zy_aload_n dL_law_392 rfl rfl ?_
  refine zy_scr (k := 1) (j := j) dL_law_393 dL_law_394 dL_law_396 dL_law_397 dL_law_398 (by decide) rfl (by omega) hL ?_
  refine zy_aload_n dL_law_399 rfl rfl ?_
  refine zy_callH (rc' := rc') (rs' := rs') dL_law_400 ml_L_74 hsp rfl rfl (Nat.le_of_ble_eq_true rfl) hbud ?_
  refine zy_istore dL_law_403 (by decide) (by decide) ?_
  show z_Y _ _ _ _ _ _ _ _ _ _ [_, _, _, _, _, _, _] _ _
  refine zy_aload_n dL_law_405 rfl rfl ?_
  refine zy_scr (k := 1) (j := j) dL_law_406 dL_law_407 dL_law_409 dL_law_410 dL_law_411 (by decide) rfl (by omega) hL ?_
  refine zy_cV1 dL_law_412 ml_L_76 (hrp) rfl ⟨by decide, rfl⟩ rfl rfl (Nat.le_of_ble_eq_true rfl) ?_
  refine zy_istore dL_law_415 (by decide) (by decide) ?_
  show z_Y _ _ _ _ _ _ _ _ _ _ [_, _, _, _, _, _, _] _ _
  refine zy_aload_n dL_law_417 rfl rfl ?_
  refine zy_cV1 dL_law_418 ml_L_55 (sp_thrown) rfl ⟨by decide, rfl⟩ rfl rfl (Nat.le_of_ble_eq_true rfl) ?_
  refine zy_iload dL_law_421 rfl ?_
  refine zy_icmp_eq (tgt := 428) dL_law_423 (by decide) (fun _ => ?_) (fun c_ => absurd (hk) c_)
  refine zy_iload dL_law_428 rfl ?_
  refine zy_if_ne (tgt := 445) dL_law_430 (by decide) (fun c430 => ?_) (fun c430 => ?_)
  · refine zy_goto (tgt := 709) dL_law_445 (by decide) ?_
    exact kk _ _
  · refine zy_aload_n dL_law_433 rfl rfl ?_
    refine zy_iconst (v := 0) dL_law_434 (by decide) ?_
    refine zy_lald (j := 0) dL_law_435 rfl nI_0.symm (by decide) rfl ?_
    refine zy_iload dL_law_436 rfl ?_
    refine zy_i2l dL_law_438 rfl ?_
    refine zy_lcmp dL_law_439 ?_
    refine zy_if_eq (tgt := 445) dL_law_440 (by decide) (fun _ => ?_) (fun c_ => absurd (lg_same (hy c430)) c_)
    refine zy_goto (tgt := 709) dL_law_445 (by decide) ?_
    exact kk _ _
set_option maxRecDepth 100000 in
set_option maxHeartbeats 4000000 in
theorem lw_out {d : Nat} {σ σ1 σ2 : Nat → Nat → Int32} {τ τ1 : Nat → Nat → Int64} {Qx : z_QT} {b L j mc ms rc rs rc' rs' mc' ms' : Nat} {xs : Nat → Int32} {k y : Int32} {w5 w6 : Option Value} (hj : j + 4 ≤ L) (hL : L ≤ 2048) (hsp : z_HV M_L_out H_L_out d mc' ms' [.ref 0, .int (xs (j + 1)), .ref 123] (124, z_r0, σ, τ) (some (.int k)) (124, z_r0, σ1, τ1)) (hrp : z_MV M_X11_out d 0 0 [.ref 92, .int (xs (j + 1))] (124, z_r0, σ1, τ1) (some (.int y)) (124, z_r0, σ2, τ1)) (hk : σ2 92 0 = k) (hy : k = 0 → τ1 123 0 = y.toInt64) (hbud : mc' + rc' ≤ rc ∧ ms' + rs' ≤ rs) (kk : ∀ w5 w6 : Option Value, z_Y (z_lc b L xs) Qx b M_L_law (d + 1) mc ms rc' rs' 709 [none, some (.ref 0), some (.ref 92), some (.ref 123), some (.int (nI j)), w5, w6] [] (124, z_r0, σ2, τ1)) : z_Y (z_lc b L xs) Qx b M_L_law (d + 1) mc ms rc rs 461 [none, some (.ref 0), some (.ref 92), some (.ref 123), some (.int (nI j)), w5, w6] [] (124, z_r0, σ, τ) := by
  refine zy_aload_n dL_law_461 rfl rfl ?_
  refine zy_scr (k := 1) (j := j) dL_law_462 dL_law_463 dL_law_465 dL_law_466 dL_law_467 (by decide) rfl (by omega) hL ?_
  refine zy_aload_n dL_law_468 rfl rfl ?_
  refine zy_callH (rc' := rc') (rs' := rs') dL_law_469 ml_L_81 hsp rfl rfl (Nat.le_of_ble_eq_true rfl) hbud ?_
  refine zy_istore dL_law_472 (by decide) (by decide) ?_
  show z_Y _ _ _ _ _ _ _ _ _ _ [_, _, _, _, _, _, _] _ _
  refine zy_aload_n dL_law_474 rfl rfl ?_
  refine zy_scr (k := 1) (j := j) dL_law_475 dL_law_476 dL_law_478 dL_law_479 dL_law_480 (by decide) rfl (by omega) hL ?_
  refine zy_cV1 dL_law_481 ml_L_83 (hrp) rfl ⟨by decide, rfl⟩ rfl rfl (Nat.le_of_ble_eq_true rfl) ?_
  refine zy_istore dL_law_484 (by decide) (by decide) ?_
  show z_Y _ _ _ _ _ _ _ _ _ _ [_, _, _, _, _, _, _] _ _
  refine zy_aload_n dL_law_486 rfl rfl ?_
  refine zy_cV1 dL_law_487 ml_L_55 (sp_thrown) rfl ⟨by decide, rfl⟩ rfl rfl (Nat.le_of_ble_eq_true rfl) ?_
  refine zy_iload dL_law_490 rfl ?_
  refine zy_icmp_eq (tgt := 497) dL_law_492 (by decide) (fun _ => ?_) (fun c_ => absurd (hk) c_)
  refine zy_iload dL_law_497 rfl ?_
  refine zy_if_ne (tgt := 514) dL_law_499 (by decide) (fun c499 => ?_) (fun c499 => ?_)
  · refine zy_goto (tgt := 709) dL_law_514 (by decide) ?_
    exact kk _ _
  · refine zy_aload_n dL_law_502 rfl rfl ?_
    refine zy_iconst (v := 0) dL_law_503 (by decide) ?_
    refine zy_lald (j := 0) dL_law_504 rfl nI_0.symm (by decide) rfl ?_
    refine zy_iload dL_law_505 rfl ?_
    refine zy_i2l dL_law_507 rfl ?_
    refine zy_lcmp dL_law_508 ?_
    refine zy_if_eq (tgt := 514) dL_law_509 (by decide) (fun _ => ?_) (fun c_ => absurd (lg_same (hy c499)) c_)
    refine zy_goto (tgt := 709) dL_law_514 (by decide) ?_
    exact kk _ _
set_option maxRecDepth 100000 in
set_option maxHeartbeats 4000000 in
theorem lw_count {d : Nat} {σ σ1 σ2 : Nat → Nat → Int32} {τ τ1 : Nat → Nat → Int64} {Qx : z_QT} {b L j mc ms rc rs rc' rs' mc' ms' : Nat} {xs : Nat → Int32} {k y : Int32} {w5 w6 : Option Value} (hj : j + 4 ≤ L) (hL : L ≤ 2048) (hsp : z_HV M_L_count H_L_count d mc' ms' [.ref 0, .int (xs (j + 1)), .ref 123] (124, z_r0, σ, τ) (some (.int k)) (124, z_r0, σ1, τ1)) (hrp : z_MV M_X11_count d 0 0 [.ref 92, .int (xs (j + 1))] (124, z_r0, σ1, τ1) (some (.int y)) (124, z_r0, σ2, τ1)) (hk : σ2 92 0 = k) (hy : k = 0 → τ1 123 0 = y.toInt64) (hbud : mc' + rc' ≤ rc ∧ ms' + rs' ≤ rs) (kk : ∀ w5 w6 : Option Value, z_Y (z_lc b L xs) Qx b M_L_law (d + 1) mc ms rc' rs' 709 [none, some (.ref 0), some (.ref 92), some (.ref 123), some (.int (nI j)), w5, w6] [] (124, z_r0, σ2, τ1)) : z_Y (z_lc b L xs) Qx b M_L_law (d + 1) mc ms rc rs 517 [none, some (.ref 0), some (.ref 92), some (.ref 123), some (.int (nI j)), w5, w6] [] (124, z_r0, σ, τ) := by
  refine zy_aload_n dL_law_517 rfl rfl ?_
  refine zy_scr (k := 1) (j := j) dL_law_518 dL_law_519 dL_law_521 dL_law_522 dL_law_523 (by decide) rfl (by omega) hL ?_
  refine zy_aload_n dL_law_524 rfl rfl ?_
  refine zy_callH (rc' := rc') (rs' := rs') dL_law_525 ml_L_84 hsp rfl rfl (Nat.le_of_ble_eq_true rfl) hbud ?_
  refine zy_istore dL_law_528 (by decide) (by decide) ?_
  show z_Y _ _ _ _ _ _ _ _ _ _ [_, _, _, _, _, _, _] _ _
  refine zy_aload_n dL_law_530 rfl rfl ?_
  refine zy_scr (k := 1) (j := j) dL_law_531 dL_law_532 dL_law_534 dL_law_535 dL_law_536 (by decide) rfl (by omega) hL ?_
  refine zy_cV1 dL_law_537 ml_L_86 (hrp) rfl ⟨by decide, rfl⟩ rfl rfl (Nat.le_of_ble_eq_true rfl) ?_
  refine zy_istore dL_law_540 (by decide) (by decide) ?_
  show z_Y _ _ _ _ _ _ _ _ _ _ [_, _, _, _, _, _, _] _ _
  refine zy_aload_n dL_law_542 rfl rfl ?_
  refine zy_cV1 dL_law_543 ml_L_55 (sp_thrown) rfl ⟨by decide, rfl⟩ rfl rfl (Nat.le_of_ble_eq_true rfl) ?_
  refine zy_iload dL_law_546 rfl ?_
  refine zy_icmp_eq (tgt := 553) dL_law_548 (by decide) (fun _ => ?_) (fun c_ => absurd (hk) c_)
  refine zy_iload dL_law_553 rfl ?_
  refine zy_if_ne (tgt := 570) dL_law_555 (by decide) (fun c555 => ?_) (fun c555 => ?_)
  · refine zy_goto (tgt := 709) dL_law_570 (by decide) ?_
    exact kk _ _
  · refine zy_aload_n dL_law_558 rfl rfl ?_
    refine zy_iconst (v := 0) dL_law_559 (by decide) ?_
    refine zy_lald (j := 0) dL_law_560 rfl nI_0.symm (by decide) rfl ?_
    refine zy_iload dL_law_561 rfl ?_
    refine zy_i2l dL_law_563 rfl ?_
    refine zy_lcmp dL_law_564 ?_
    refine zy_if_eq (tgt := 570) dL_law_565 (by decide) (fun _ => ?_) (fun c_ => absurd (lg_same (hy c555)) c_)
    refine zy_goto (tgt := 709) dL_law_570 (by decide) ?_
    exact kk _ _
set_option maxRecDepth 100000 in
set_option maxHeartbeats 4000000 in
theorem lw_place {d : Nat} {σ σ1 σ2 : Nat → Nat → Int32} {τ τ1 : Nat → Nat → Int64} {Qx : z_QT} {b L j mc ms rc rs rc' rs' mc' ms' : Nat} {xs : Nat → Int32} {k y : Int32} {w5 w6 : Option Value} (hj : j + 4 ≤ L) (hL : L ≤ 2048) (hsp : z_HV M_L_place H_L_place d mc' ms' [.ref 0, .int (xs (j + 1)), .int (xs (j + 2)), .ref 123] (124, z_r0, σ, τ) (some (.int k)) (124, z_r0, σ1, τ1)) (hrp : z_MV M_X11_place d 0 0 [.ref 92, .int (xs (j + 1)), .int (xs (j + 2))] (124, z_r0, σ1, τ1) (some (.int y)) (124, z_r0, σ2, τ1)) (hk : σ2 92 0 = k) (hy : k = 0 → τ1 123 0 = y.toInt64) (hbud : mc' + rc' ≤ rc ∧ ms' + rs' ≤ rs) (kk : ∀ w5 w6 : Option Value, z_Y (z_lc b L xs) Qx b M_L_law (d + 1) mc ms rc' rs' 709 [none, some (.ref 0), some (.ref 92), some (.ref 123), some (.int (nI j)), w5, w6] [] (124, z_r0, σ2, τ1)) : z_Y (z_lc b L xs) Qx b M_L_law (d + 1) mc ms rc rs 573 [none, some (.ref 0), some (.ref 92), some (.ref 123), some (.int (nI j)), w5, w6] [] (124, z_r0, σ, τ) := by
  refine zy_aload_n dL_law_573 rfl rfl ?_
  refine zy_scr (k := 1) (j := j) dL_law_574 dL_law_575 dL_law_577 dL_law_578 dL_law_579 (by decide) rfl (by omega) hL ?_
  refine zy_scr (k := 2) (j := j) dL_law_580 dL_law_581 dL_law_583 dL_law_584 dL_law_585 (by decide) rfl (by omega) hL ?_
  refine zy_aload_n dL_law_586 rfl rfl ?_
  refine zy_callH (rc' := rc') (rs' := rs') dL_law_587 ml_L_87 hsp rfl rfl (Nat.le_of_ble_eq_true rfl) hbud ?_
  refine zy_istore dL_law_590 (by decide) (by decide) ?_
  show z_Y _ _ _ _ _ _ _ _ _ _ [_, _, _, _, _, _, _] _ _
  refine zy_aload_n dL_law_592 rfl rfl ?_
  refine zy_scr (k := 1) (j := j) dL_law_593 dL_law_594 dL_law_596 dL_law_597 dL_law_598 (by decide) rfl (by omega) hL ?_
  refine zy_scr (k := 2) (j := j) dL_law_599 dL_law_600 dL_law_602 dL_law_603 dL_law_604 (by decide) rfl (by omega) hL ?_
  refine zy_cV1 dL_law_605 ml_L_89 (hrp) rfl ⟨by decide, rfl⟩ rfl rfl (Nat.le_of_ble_eq_true rfl) ?_
  refine zy_istore dL_law_608 (by decide) (by decide) ?_
  show z_Y _ _ _ _ _ _ _ _ _ _ [_, _, _, _, _, _, _] _ _
  refine zy_aload_n dL_law_610 rfl rfl ?_
  refine zy_cV1 dL_law_611 ml_L_55 (sp_thrown) rfl ⟨by decide, rfl⟩ rfl rfl (Nat.le_of_ble_eq_true rfl) ?_
  refine zy_iload dL_law_614 rfl ?_
  refine zy_icmp_eq (tgt := 621) dL_law_616 (by decide) (fun _ => ?_) (fun c_ => absurd (hk) c_)
  refine zy_iload dL_law_621 rfl ?_
  refine zy_if_ne (tgt := 638) dL_law_623 (by decide) (fun c623 => ?_) (fun c623 => ?_)
  · refine zy_goto (tgt := 709) dL_law_638 (by decide) ?_
    exact kk _ _
  · refine zy_aload_n dL_law_626 rfl rfl ?_
    refine zy_iconst (v := 0) dL_law_627 (by decide) ?_
    refine zy_lald (j := 0) dL_law_628 rfl nI_0.symm (by decide) rfl ?_
    refine zy_iload dL_law_629 rfl ?_
    refine zy_i2l dL_law_631 rfl ?_
    refine zy_lcmp dL_law_632 ?_
    refine zy_if_eq (tgt := 638) dL_law_633 (by decide) (fun _ => ?_) (fun c_ => absurd (lg_same (hy c623)) c_)
    refine zy_goto (tgt := 709) dL_law_638 (by decide) ?_
    exact kk _ _
set_option maxRecDepth 100000 in
set_option maxHeartbeats 4000000 in
theorem lw_trace {d : Nat} {σ σ1 σ2 : Nat → Nat → Int32} {τ τ1 : Nat → Nat → Int64} {Qx : z_QT} {b L j mc ms rc rs rc' rs' mc' ms' : Nat} {xs : Nat → Int32} {k y : Int32} {w5 w6 : Option Value} (hj : j + 4 ≤ L) (hL : L ≤ 2048) (hsp : z_HV M_L_trace H_L_trace d mc' ms' [.ref 0, .int (xs (j + 1)), .int (xs (j + 2)), .ref 123] (124, z_r0, σ, τ) (some (.int k)) (124, z_r0, σ1, τ1)) (hrp : z_MV M_X11_trace d 0 0 [.ref 92, .int (xs (j + 1)), .int (xs (j + 2))] (124, z_r0, σ1, τ1) (some (.int y)) (124, z_r0, σ2, τ1)) (hk : σ2 92 0 = k) (hy : k = 0 → τ1 123 0 = y.toInt64) (hbud : mc' + rc' ≤ rc ∧ ms' + rs' ≤ rs) (kk : ∀ w5 w6 : Option Value, z_Y (z_lc b L xs) Qx b M_L_law (d + 1) mc ms rc' rs' 709 [none, some (.ref 0), some (.ref 92), some (.ref 123), some (.int (nI j)), w5, w6] [] (124, z_r0, σ2, τ1)) : z_Y (z_lc b L xs) Qx b M_L_law (d + 1) mc ms rc rs 641 [none, some (.ref 0), some (.ref 92), some (.ref 123), some (.int (nI j)), w5, w6] [] (124, z_r0, σ, τ) := by
  refine zy_aload_n dL_law_641 rfl rfl ?_
  refine zy_scr (k := 1) (j := j) dL_law_642 dL_law_643 dL_law_645 dL_law_646 dL_law_647 (by decide) rfl (by omega) hL ?_
  refine zy_scr (k := 2) (j := j) dL_law_648 dL_law_649 dL_law_651 dL_law_652 dL_law_653 (by decide) rfl (by omega) hL ?_
  refine zy_aload_n dL_law_654 rfl rfl ?_
  refine zy_callH (rc' := rc') (rs' := rs') dL_law_655 ml_L_90 hsp rfl rfl (Nat.le_of_ble_eq_true rfl) hbud ?_
  refine zy_istore dL_law_658 (by decide) (by decide) ?_
  show z_Y _ _ _ _ _ _ _ _ _ _ [_, _, _, _, _, _, _] _ _
  refine zy_aload_n dL_law_660 rfl rfl ?_
  refine zy_scr (k := 1) (j := j) dL_law_661 dL_law_662 dL_law_664 dL_law_665 dL_law_666 (by decide) rfl (by omega) hL ?_
  refine zy_scr (k := 2) (j := j) dL_law_667 dL_law_668 dL_law_670 dL_law_671 dL_law_672 (by decide) rfl (by omega) hL ?_
  refine zy_cV1 dL_law_673 ml_L_92 (hrp) rfl ⟨by decide, rfl⟩ rfl rfl (Nat.le_of_ble_eq_true rfl) ?_
  refine zy_istore dL_law_676 (by decide) (by decide) ?_
  show z_Y _ _ _ _ _ _ _ _ _ _ [_, _, _, _, _, _, _] _ _
  refine zy_aload_n dL_law_678 rfl rfl ?_
  refine zy_cV1 dL_law_679 ml_L_55 (sp_thrown) rfl ⟨by decide, rfl⟩ rfl rfl (Nat.le_of_ble_eq_true rfl) ?_
  refine zy_iload dL_law_682 rfl ?_
  refine zy_icmp_eq (tgt := 689) dL_law_684 (by decide) (fun _ => ?_) (fun c_ => absurd (hk) c_)
  refine zy_iload dL_law_689 rfl ?_
  refine zy_if_ne (tgt := 706) dL_law_691 (by decide) (fun c691 => ?_) (fun c691 => ?_)
  · refine zy_goto (tgt := 709) dL_law_706 (by decide) ?_
    exact kk _ _
  · refine zy_aload_n dL_law_694 rfl rfl ?_
    refine zy_iconst (v := 0) dL_law_695 (by decide) ?_
    refine zy_lald (j := 0) dL_law_696 rfl nI_0.symm (by decide) rfl ?_
    refine zy_iload dL_law_697 rfl ?_
    refine zy_i2l dL_law_699 rfl ?_
    refine zy_lcmp dL_law_700 ?_
    refine zy_if_eq (tgt := 706) dL_law_701 (by decide) (fun _ => ?_) (fun c_ => absurd (lg_same (hy c691)) c_)
    refine zy_goto (tgt := 709) dL_law_706 (by decide) ?_
    exact kk _ _
set_option maxRecDepth 100000 in
set_option maxHeartbeats 4000000 in
theorem lw_clear {d : Nat} {σ σ1 σ2 : Nat → Nat → Int32} {τ τ1 : Nat → Nat → Int64} {Qx : z_QT} {b L j mc ms rc rs rc' rs' mc' ms' : Nat} {xs : Nat → Int32} {k y : Int32} {w5 w6 : Option Value} (hsp : z_MV M_X10_clear d 0 0 [.ref 0] (124, z_r0, σ, τ) (some (.int y)) (124, z_r0, σ1, τ)) (hrp : z_MV M_X11_clear d 0 0 [.ref 92] (124, z_r0, σ1, τ) (some (.int y)) (124, z_r0, σ2, τ)) (kk : ∀ w5 w6 : Option Value, z_Y (z_lc b L xs) Qx b M_L_law (d + 1) mc ms rc rs 709 [none, some (.ref 0), some (.ref 92), some (.ref 123), some (.int (nI j)), w5, w6] [] (124, z_r0, σ2, τ)) : z_Y (z_lc b L xs) Qx b M_L_law (d + 1) mc ms rc rs 323 [none, some (.ref 0), some (.ref 92), some (.ref 123), some (.int (nI j)), w5, w6] [] (124, z_r0, σ, τ) := by
  refine zy_aload_n dL_law_323 rfl rfl ?_
  refine zy_cV1 dL_law_324 ml_L_67 (hsp) rfl ⟨by decide, rfl⟩ rfl rfl (Nat.le_of_ble_eq_true rfl) ?_
  refine zy_aload_n dL_law_327 rfl rfl ?_
  refine zy_cV1 dL_law_328 ml_L_70 (hrp) rfl ⟨by decide, rfl⟩ rfl rfl (Nat.le_of_ble_eq_true rfl) ?_
  refine zy_icmp_eq (tgt := 709) dL_law_331 (by decide) (fun _ => ?_) (fun c_ => absurd (rfl) c_)
  exact kk _ _
set_option maxRecDepth 100000 in
set_option maxHeartbeats 4000000 in
theorem lw_outs {d : Nat} {σ σ1 σ2 : Nat → Nat → Int32} {τ τ1 : Nat → Nat → Int64} {Qx : z_QT} {b L j mc ms rc rs rc' rs' mc' ms' : Nat} {xs : Nat → Int32} {k y : Int32} {w5 w6 : Option Value} (hsp : z_MV M_X10_outs d 0 0 [.ref 0] (124, z_r0, σ, τ) (some (.int y)) (124, z_r0, σ1, τ)) (hrp : z_MV M_X11_outs d 0 0 [.ref 92] (124, z_r0, σ1, τ) (some (.int y)) (124, z_r0, σ2, τ)) (kk : ∀ w5 w6 : Option Value, z_Y (z_lc b L xs) Qx b M_L_law (d + 1) mc ms rc rs 709 [none, some (.ref 0), some (.ref 92), some (.ref 123), some (.int (nI j)), w5, w6] [] (124, z_r0, σ2, τ)) : z_Y (z_lc b L xs) Qx b M_L_law (d + 1) mc ms rc rs 448 [none, some (.ref 0), some (.ref 92), some (.ref 123), some (.int (nI j)), w5, w6] [] (124, z_r0, σ, τ) := by
  refine zy_aload_n dL_law_448 rfl rfl ?_
  refine zy_cV1 dL_law_449 ml_L_77 (hsp) rfl ⟨by decide, rfl⟩ rfl rfl (Nat.le_of_ble_eq_true rfl) ?_
  refine zy_aload_n dL_law_452 rfl rfl ?_
  refine zy_cV1 dL_law_453 ml_L_80 (hrp) rfl ⟨by decide, rfl⟩ rfl rfl (Nat.le_of_ble_eq_true rfl) ?_
  refine zy_icmp_eq (tgt := 709) dL_law_456 (by decide) (fun _ => ?_) (fun c_ => absurd (rfl) c_)
  exact kk _ _
