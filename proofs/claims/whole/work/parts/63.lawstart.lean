/-! PART 63: the law: both systems made -/
def z_s0 : Nat → Nat → Int32 := (z_up (z_up (z_up (z_up (z_up (fun _ _ => 0) 16 2 (-1)) 0 12 (-1)) 92 7 (-1)) 92 15 (-1)) 92 20 (-1))
set_option maxRecDepth 100000 in
set_option maxHeartbeats 4000000 in
theorem lw_start {d : Nat} {Cx : z_CT} {Qx : z_QT} {b mc ms rc rs : Nat} (kk : z_Y Cx Qx b M_L_law (d + 3) mc ms rc rs 23 [none, some (.ref 0), some (.ref 92), some (.ref 123), some (.int (nI 0)), none, none] [] (124, z_r0, z_s0, fun _ _ => 0)) : z_Y Cx Qx b M_L_law (d + 3) mc ms (rc + 124) (rs + 3645) 0 [none, none, none, none, none, none, none] [] (0, z_rp 0, (fun _ _ => 0), fun _ _ => 0) := by
  refine zy_new (ci := 10) (rc' := rc + 123) (rs' := rs + 3632) dL_law_0 (by decide) nl_L_8 rfl (z_rpn (by decide +kernel)) rfl ⟨by omega, by show 13 + (rs + 3632) ≤ rs + 3645; omega⟩ ?_
  refine zy_dup dL_law_3 rfl ?_
  refine zy_callI (rc' := rc + 32) (rs' := rs + 1064) dL_law_4 ml_L_45 ci_X10_init_0 rfl rfl (Nat.le_of_ble_eq_true rfl) ⟨by omega, by omega⟩ ?_
  refine zy_astore_n dL_law_7 rfl (by decide) (by decide) ?_
  show z_Y _ _ _ _ _ _ _ _ _ _ [_, _, _, _, _, _, _] _ _
  refine zy_new (ci := 11) (rc' := rc + 31) (rs' := rs + 1017) dL_law_8 (by decide) nl_L_46 rfl (z_rpn (by decide +kernel)) (by funext j; simp [z_up]) ⟨by omega, by show 47 + (rs + 1017) ≤ rs + 1064; omega⟩ ?_
  refine zy_dup dL_law_11 rfl ?_
  refine zy_callI (rc' := rc + 1) (rs' := rs + 1) dL_law_12 ml_L_48 (ci_X11_init_92 (d := d + 2)) rfl rfl (Nat.le_of_ble_eq_true rfl) ⟨by omega, by omega⟩ ?_
  refine zy_astore_n dL_law_15 rfl (by decide) (by decide) ?_
  show z_Y _ _ _ _ _ _ _ _ _ _ [_, _, _, _, _, _, _] _ _
  refine zy_iconst (v := nI 1) dL_law_16 (by decide) ?_
  refine zy_newL (N := 1) (rc' := rc) (rs' := rs) dL_law_17 acL rfl rfl (z_rpn (by decide +kernel)) rfl ⟨by omega, by omega⟩ ?_
  refine zy_astore_n dL_law_19 rfl (by decide) (by decide) ?_
  show z_Y _ _ _ _ _ _ _ _ _ _ [_, _, _, _, _, _, _] _ _
  refine zy_iconst (v := nI 0) dL_law_20 (by decide) ?_
  refine zy_istore dL_law_21 (by decide) (by decide) ?_
  show z_Y _ _ _ _ _ _ _ _ _ _ [_, _, _, _, _, _, _] _ _
  rw [z_rp_end]
  exact kk
