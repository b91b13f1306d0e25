/-! PART 56: the law's helpers -/
theorem z_lconst {M : z_M} {d mc ms rc rs : Nat} {r : Option Value} {X1 X : z_X} {pc : Nat} {lv : List (Option Value)} {st : List Value} {n : Fin 2} {v : Int64} (hd : decode M.2.1 pc = .ok (.lconst n, 1)) (hv : Int64.ofNat (n : Nat) = v) (k : z_V M d mc ms rc rs r X1 (pc + 1) lv (.long v :: st) X) : z_V M d mc ms rc rs r X1 pc lv st X :=
  z_pure (fun hst => hst.cons z_sv.long) (fun h hx hb kk => lv_lconst hx hb hd hv kk) k
set_option maxRecDepth 100000 in
set_option maxHeartbeats 4000000 in
theorem lh_add {d : Nat} {σ : Nat → Nat → Int32} {τ : Nat → Nat → Int64} {σ' : Nat → Nat → Int32} {v0 v1 x : Int32} (hsp : z_MV M_X10_add d 0 0 [.ref 0, .int v0, .int v1] (124, z_r0, σ, τ) (some (.int x)) (124, z_r0, σ', τ)) : z_HV M_L_add H_L_add (d + 1) 0 0 [.ref 0, .int v0, .int v1, .ref 123] (124, z_r0, σ, τ) (some (.int 0)) (124, z_r0, σ', z_up τ 123 0 x.toInt64) := by
  refine z_HV.of pn_L_add (Nat.le_of_ble_eq_true rfl) (by simp [Value.category]) rfl ?_
  show z_U _ _ _ _ _ _ _ _ _ [_, _, _, _, _] _ _
  refine zu_of ?_
  refine z_aload_n dL_add_0 rfl rfl ?_
  refine z_iconst (v := 0) dL_add_1 (by decide) ?_
  refine z_aload_n dL_add_2 rfl rfl ?_
  refine z_iload_n dL_add_3 rfl rfl ?_
  refine z_iload_n dL_add_4 rfl rfl ?_
  refine z_cV1 dL_add_5 ml_L_7 (hsp) rfl ⟨by decide, rfl⟩ rfl rfl (Nat.le_of_ble_eq_true rfl) ?_
  refine z_i2l dL_add_8 rfl ?_
  refine z_last (j := 0) dL_add_9 rfl nI_0.symm (by decide) ?_
  refine z_goto (tgt := 21) dL_add_10 (by decide) ?_
  refine z_iconst (v := 0) dL_add_21 (by decide) ?_
  exact z_iret dL_add_22 rfl rfl rfl
set_option maxRecDepth 100000 in
set_option maxHeartbeats 4000000 in
theorem lx_add {d : Nat} {σ : Nat → Nat → Int32} {τ : Nat → Nat → Int64} {σ' : Nat → Nat → Int32} {v0 v1 : Int32} (hsp : z_XM M_X10_add d 1 6 [.ref 0, .int v0, .int v1] (124, z_r0, σ, τ) "java/lang/IllegalArgumentException" (124, z_r0, σ', τ)) : z_HV M_L_add H_L_add (d + 1) 1 6 [.ref 0, .int v0, .int v1, .ref 123] (124, z_r0, σ, τ) (some (.int (1))) (124, z_r0, σ', τ) := by
  refine z_HV.of pn_L_add (Nat.le_of_ble_eq_true rfl) (by simp [Value.category]) rfl ?_
  show z_U _ _ _ _ _ _ _ _ _ [_, _, _, _, _] _ _
  refine zu_aload_n dL_add_0 rfl rfl ?_
  refine zu_iconst (v := 0) dL_add_1 (by decide) ?_
  refine zu_aload_n dL_add_2 rfl rfl ?_
  refine zu_iload_n dL_add_3 rfl rfl ?_
  refine zu_iload_n dL_add_4 rfl rfl ?_
  refine zu_caught (hp := 13) (hpd := 15) (i := 4) (rc' := 0) (rs' := 0) dL_add_5 ml_L_7 hsp ⟨[], ⟨0, 10, 13, 13⟩, [⟨0, 10, 17, 15⟩], rfl, (fun z hz => by cases hz), by decide +kernel, by decide, cl_L_13, by decide +kernel, rfl⟩ (Or.inl ⟨dL_add_13, rfl⟩) (by decide) rfl ⟨by decide, rfl⟩ rfl rfl (Nat.le_of_ble_eq_true rfl) ⟨by decide, by decide⟩ ?_
  refine zu_of ?_
  show z_V _ _ _ _ _ _ _ _ _ [_, _, _, _, _] _ _
  refine z_iconst (v := 1) dL_add_15 (by decide) ?_
  exact z_iret dL_add_16 rfl rfl rfl
set_option maxRecDepth 100000 in
set_option maxHeartbeats 4000000 in
theorem lx_add2 {d : Nat} {σ : Nat → Nat → Int32} {τ : Nat → Nat → Int64} {σ' : Nat → Nat → Int32} {v0 v1 : Int32} (hsp : z_XM M_X10_add d 1 6 [.ref 0, .int v0, .int v1] (124, z_r0, σ, τ) "java/lang/IllegalStateException" (124, z_r0, σ', τ)) : z_HV M_L_add H_L_add (d + 1) 1 6 [.ref 0, .int v0, .int v1, .ref 123] (124, z_r0, σ, τ) (some (.int (nI 2))) (124, z_r0, σ', τ) := by
  refine z_HV.of pn_L_add (Nat.le_of_ble_eq_true rfl) (by simp [Value.category]) rfl ?_
  show z_U _ _ _ _ _ _ _ _ _ [_, _, _, _, _] _ _
  refine zu_aload_n dL_add_0 rfl rfl ?_
  refine zu_iconst (v := 0) dL_add_1 (by decide) ?_
  refine zu_aload_n dL_add_2 rfl rfl ?_
  refine zu_iload_n dL_add_3 rfl rfl ?_
  refine zu_iload_n dL_add_4 rfl rfl ?_
  refine zu_caught (hp := 17) (hpd := 19) (i := 4) (rc' := 0) (rs' := 0) dL_add_5 ml_L_7 hsp ⟨[⟨0, 10, 13, 13⟩], ⟨0, 10, 17, 15⟩, [], rfl, (fun z hz => Or.inr (by rw [List.mem_singleton.mp hz]; exact ⟨by decide, _, cl_L_13, rfl, rfl⟩)), by decide +kernel, by decide, cl_L_15, by decide +kernel, rfl⟩ (Or.inl ⟨dL_add_17, rfl⟩) (by decide) rfl ⟨by decide, rfl⟩ rfl rfl (Nat.le_of_ble_eq_true rfl) ⟨by decide, by decide⟩ ?_
  refine zu_of ?_
  show z_V _ _ _ _ _ _ _ _ _ [_, _, _, _, _] _ _
  refine z_iconst (v := nI 2) dL_add_19 (by decide) ?_
  exact z_iret dL_add_20 rfl rfl rfl
set_option maxRecDepth 100000 in
set_option maxHeartbeats 4000000 in
theorem lh_begin {d : Nat} {σ : Nat → Nat → Int32} {τ : Nat → Nat → Int64} {σ' : Nat → Nat → Int32} {v0 v1 v2 x : Int32} (hsp : z_MV M_X10_begin d 0 0 [.ref 0, .int v0, .int v1, .int v2] (124, z_r0, σ, τ) (some (.int x)) (124, z_r0, σ', τ)) : z_HV M_L_begin H_L_begin (d + 1) 0 0 [.ref 0, .int v0, .int v1, .int v2, .ref 123] (124, z_r0, σ, τ) (some (.int 0)) (124, z_r0, σ', z_up τ 123 0 (if x = 0 then 0 else 1)) := by
  refine z_HV.of pn_L_begin (Nat.le_of_ble_eq_true rfl) (by simp [Value.category]) rfl ?_
  show z_U _ _ _ _ _ _ _ _ _ [_, _, _, _, _, _] _ _
  refine zu_of ?_
  refine z_aload dL_begin_0 rfl ?_
  refine z_iconst (v := 0) dL_begin_2 (by decide) ?_
  refine z_aload_n dL_begin_3 rfl rfl ?_
  refine z_iload_n dL_begin_4 rfl rfl ?_
  refine z_iload_n dL_begin_5 rfl rfl ?_
  refine z_iload_n dL_begin_6 rfl rfl ?_
  refine z_cV1 dL_begin_7 ml_L_17 (hsp) rfl ⟨by decide, rfl⟩ rfl rfl (Nat.le_of_ble_eq_true rfl) ?_
  refine z_if_eq (tgt := 17) dL_begin_10 (by decide) (fun c10 => ?_) (fun c10 => ?_)
  · rw [if_pos c10]
    refine z_lconst (v := 0) dL_begin_17 (by decide) ?_
    refine z_last (j := 0) dL_begin_18 rfl nI_0.symm (by decide) ?_
    refine z_goto (tgt := 26) dL_begin_19 (by decide) ?_
    refine z_iconst (v := 0) dL_begin_26 (by decide) ?_
    exact z_iret dL_begin_27 rfl rfl rfl
  · rw [if_neg c10]
    refine z_lconst (v := 1) dL_begin_13 (by decide) ?_
    refine z_goto (tgt := 18) dL_begin_14 (by decide) ?_
    refine z_last (j := 0) dL_begin_18 rfl nI_0.symm (by decide) ?_
    refine z_goto (tgt := 26) dL_begin_19 (by decide) ?_
    refine z_iconst (v := 0) dL_begin_26 (by decide) ?_
    exact z_iret dL_begin_27 rfl rfl rfl
set_option maxRecDepth 100000 in
set_option maxHeartbeats 4000000 in
theorem lx_begin {d : Nat} {σ : Nat → Nat → Int32} {τ : Nat → Nat → Int64} {σ' : Nat → Nat → Int32} {v0 v1 v2 : Int32} (hsp : z_XM M_X10_begin d 1 6 [.ref 0, .int v0, .int v1, .int v2] (124, z_r0, σ, τ) "java/lang/IllegalArgumentException" (124, z_r0, σ', τ)) : z_HV M_L_begin H_L_begin (d + 1) 1 6 [.ref 0, .int v0, .int v1, .int v2, .ref 123] (124, z_r0, σ, τ) (some (.int (1))) (124, z_r0, σ', τ) := by
  refine z_HV.of pn_L_begin (Nat.le_of_ble_eq_true rfl) (by simp [Value.category]) rfl ?_
  show z_U _ _ _ _ _ _ _ _ _ [_, _, _, _, _, _] _ _
  refine zu_aload dL_begin_0 rfl ?_
  refine zu_iconst (v := 0) dL_begin_2 (by decide) ?_
  refine zu_aload_n dL_begin_3 rfl rfl ?_
  refine zu_iload_n dL_begin_4 rfl rfl ?_
  refine zu_iload_n dL_begin_5 rfl rfl ?_
  refine zu_iload_n dL_begin_6 rfl rfl ?_
  refine zu_caught (hp := 22) (hpd := 24) (i := 5) (rc' := 0) (rs' := 0) dL_begin_7 ml_L_17 hsp ⟨[], ⟨0, 19, 22, 13⟩, [], rfl, (fun z hz => by cases hz), by decide +kernel, by decide, cl_L_13, by decide +kernel, rfl⟩ (Or.inl ⟨dL_begin_22, rfl⟩) (by decide) rfl ⟨by decide, rfl⟩ rfl rfl (Nat.le_of_ble_eq_true rfl) ⟨by decide, by decide⟩ ?_
  refine zu_of ?_
  show z_V _ _ _ _ _ _ _ _ _ [_, _, _, _, _, _] _ _
  refine z_iconst (v := 1) dL_begin_24 (by decide) ?_
  exact z_iret dL_begin_25 rfl rfl rfl
set_option maxRecDepth 100000 in
set_option maxHeartbeats 4000000 in
theorem lh_run {d : Nat} {σ : Nat → Nat → Int32} {τ : Nat → Nat → Int64} {σ' : Nat → Nat → Int32} {v0 x : Int32} (hsp : z_MV M_X10_run d 0 0 [.ref 0, .int v0] (124, z_r0, σ, τ) (some (.int x)) (124, z_r0, σ', τ)) : z_HV M_L_run H_L_run (d + 1) 0 0 [.ref 0, .int v0, .ref 123] (124, z_r0, σ, τ) (some (.int 0)) (124, z_r0, σ', z_up τ 123 0 x.toInt64) := by
  refine z_HV.of pn_L_run (Nat.le_of_ble_eq_true rfl) (by simp [Value.category]) rfl ?_
  show z_U _ _ _ _ _ _ _ _ _ [_, _, _, _] _ _
  refine zu_of ?_
  refine z_aload_n dL_run_0 rfl rfl ?_
  refine z_iconst (v := 0) dL_run_1 (by decide) ?_
  refine z_aload_n dL_run_2 rfl rfl ?_
  refine z_iload_n dL_run_3 rfl rfl ?_
  refine z_cV1 dL_run_4 ml_L_21 (hsp) rfl ⟨by decide, rfl⟩ rfl rfl (Nat.le_of_ble_eq_true rfl) ?_
  refine z_i2l dL_run_7 rfl ?_
  refine z_last (j := 0) dL_run_8 rfl nI_0.symm (by decide) ?_
  refine z_goto (tgt := 18) dL_run_9 (by decide) ?_
  refine z_iconst (v := 0) dL_run_18 (by decide) ?_
  exact z_iret dL_run_19 rfl rfl rfl
set_option maxRecDepth 100000 in
set_option maxHeartbeats 4000000 in
theorem lx_run {d : Nat} {σ : Nat → Nat → Int32} {τ : Nat → Nat → Int64} {σ' : Nat → Nat → Int32} {v0 : Int32} (hsp : z_XM M_X10_run d 1 6 [.ref 0, .int v0] (124, z_r0, σ, τ) "java/lang/IllegalArgumentException" (124, z_r0, σ', τ)) : z_HV M_L_run H_L_run (d + 1) 1 6 [.ref 0, .int v0, .ref 123] (124, z_r0, σ, τ) (some (.int (1))) (124, z_r0, σ', τ) := by
  refine z_HV.of pn_L_run (Nat.le_of_ble_eq_true rfl) (by simp [Value.category]) rfl ?_
  show z_U _ _ _ _ _ _ _ _ _ [_, _, _, _] _ _
  refine zu_aload_n dL_run_0 rfl rfl ?_
  refine zu_iconst (v := 0) dL_run_1 (by decide) ?_
  refine zu_aload_n dL_run_2 rfl rfl ?_
  refine zu_iload_n dL_run_3 rfl rfl ?_
  refine zu_caught (hp := 12) (hpd := 13) (i := 3) (rc' := 0) (rs' := 0) dL_run_4 ml_L_21 hsp ⟨[], ⟨0, 9, 12, 13⟩, [⟨0, 9, 15, 15⟩], rfl, (fun z hz => by cases hz), by decide +kernel, by decide, cl_L_13, by decide +kernel, rfl⟩ (Or.inr ⟨3, rfl, dL_run_12, rfl⟩) (by decide) rfl ⟨by decide, rfl⟩ rfl rfl (Nat.le_of_ble_eq_true rfl) ⟨by decide, by decide⟩ ?_
  refine zu_of ?_
  show z_V _ _ _ _ _ _ _ _ _ [_, _, _, _] _ _
  refine z_iconst (v := 1) dL_run_13 (by decide) ?_
  exact z_iret dL_run_14 rfl rfl rfl
set_option maxRecDepth 100000 in
set_option maxHeartbeats 4000000 in
theorem lx_run2 {d : Nat} {σ : Nat → Nat → Int32} {τ : Nat → Nat → Int64} {σ' : Nat → Nat → Int32} {v0 : Int32} (hsp : z_XM M_X10_run d 1 6 [.ref 0, .int v0] (124, z_r0, σ, τ) "java/lang/IllegalStateException" (124, z_r0, σ', τ)) : z_HV M_L_run H_L_run (d + 1) 1 6 [.ref 0, .int v0, .ref 123] (124, z_r0, σ, τ) (some (.int (nI 2))) (124, z_r0, σ', τ) := by
  refine z_HV.of pn_L_run (Nat.le_of_ble_eq_true rfl) (by simp [Value.category]) rfl ?_
  show z_U _ _ _ _ _ _ _ _ _ [_, _, _, _] _ _
  refine zu_aload_n dL_run_0 rfl rfl ?_
  refine zu_iconst (v := 0) dL_run_1 (by decide) ?_
  refine zu_aload_n dL_run_2 rfl rfl ?_
  refine zu_iload_n dL_run_3 rfl rfl ?_
  refine zu_caught (hp := 15) (hpd := 16) (i := 3) (rc' := 0) (rs' := 0) dL_run_4 ml_L_21 hsp ⟨[⟨0, 9, 12, 13⟩], ⟨0, 9, 15, 15⟩, [], rfl, (fun z hz => Or.inr (by rw [List.mem_singleton.mp hz]; exact ⟨by decide, _, cl_L_13, rfl, rfl⟩)), by decide +kernel, by decide, cl_L_15, by decide +kernel, rfl⟩ (Or.inr ⟨3, rfl, dL_run_15, rfl⟩) (by decide) rfl ⟨by decide, rfl⟩ rfl rfl (Nat.le_of_ble_eq_true rfl) ⟨by decide, by decide⟩ ?_
  refine zu_of ?_
  show z_V _ _ _ _ _ _ _ _ _ [_, _, _, _] _ _
  refine z_iconst (v := nI 2) dL_run_16 (by decide) ?_
  exact z_iret dL_run_17 rfl rfl rfl
set_option maxRecDepth 100000 in
set_option maxHeartbeats 4000000 in
theorem lh_local {d : Nat} {σ : Nat → Nat → Int32} {τ : Nat → Nat → Int64} {σ' : Nat → Nat → Int32} {v0 x : Int32} (hsp : z_MV M_X10_local d 0 0 [.ref 0, .int v0] (124, z_r0, σ, τ) (some (.int x)) (124, z_r0, σ', τ)) : z_HV M_L_local H_L_local (d + 1) 0 0 [.ref 0, .int v0, .ref 123] (124, z_r0, σ, τ) (some (.int 0)) (124, z_r0, σ', z_up τ 123 0 x.toInt64) := by
  refine z_HV.of pn_L_local (Nat.le_of_ble_eq_true rfl) (by simp [Value.category]) rfl ?_
  show z_U _ _ _ _ _ _ _ _ _ [_, _, _, _] _ _
  refine zu_of ?_
  refine z_aload_n dL_local_0 rfl rfl ?_
  refine z_iconst (v := 0) dL_local_1 (by decide) ?_
  refine z_aload_n dL_local_2 rfl rfl ?_
  refine z_iload_n dL_local_3 rfl rfl ?_
  refine z_cV1 dL_local_4 ml_L_25 (hsp) rfl ⟨by decide, rfl⟩ rfl rfl (Nat.le_of_ble_eq_true rfl) ?_
  refine z_i2l dL_local_7 rfl ?_
  refine z_last (j := 0) dL_local_8 rfl nI_0.symm (by decide) ?_
  refine z_goto (tgt := 15) dL_local_9 (by decide) ?_
  refine z_iconst (v := 0) dL_local_15 (by decide) ?_
  exact z_iret dL_local_16 rfl rfl rfl
set_option maxRecDepth 100000 in
set_option maxHeartbeats 4000000 in
theorem lx_local {d : Nat} {σ : Nat → Nat → Int32} {τ : Nat → Nat → Int64} {σ' : Nat → Nat → Int32} {v0 : Int32} (hsp : z_XM M_X10_local d 1 6 [.ref 0, .int v0] (124, z_r0, σ, τ) "java/lang/IndexOutOfBoundsException" (124, z_r0, σ', τ)) : z_HV M_L_local H_L_local (d + 1) 1 6 [.ref 0, .int v0, .ref 123] (124, z_r0, σ, τ) (some (.int (1))) (124, z_r0, σ', τ) := by
  refine z_HV.of pn_L_local (Nat.le_of_ble_eq_true rfl) (by simp [Value.category]) rfl ?_
  show z_U _ _ _ _ _ _ _ _ _ [_, _, _, _] _ _
  refine zu_aload_n dL_local_0 rfl rfl ?_
  refine zu_iconst (v := 0) dL_local_1 (by decide) ?_
  refine zu_aload_n dL_local_2 rfl rfl ?_
  refine zu_iload_n dL_local_3 rfl rfl ?_
  refine zu_caught (hp := 12) (hpd := 13) (i := 3) (rc' := 0) (rs' := 0) dL_local_4 ml_L_25 hsp ⟨[], ⟨0, 9, 12, 28⟩, [], rfl, (fun z hz => by cases hz), by decide +kernel, by decide, cl_L_28, by decide +kernel, rfl⟩ (Or.inr ⟨3, rfl, dL_local_12, rfl⟩) (by decide) rfl ⟨by decide, rfl⟩ rfl rfl (Nat.le_of_ble_eq_true rfl) ⟨by decide, by decide⟩ ?_
  refine zu_of ?_
  show z_V _ _ _ _ _ _ _ _ _ [_, _, _, _] _ _
  refine z_iconst (v := 1) dL_local_13 (by decide) ?_
  exact z_iret dL_local_14 rfl rfl rfl
set_option maxRecDepth 100000 in
set_option maxHeartbeats 4000000 in
theorem lh_top {d : Nat} {σ : Nat → Nat → Int32} {τ : Nat → Nat → Int64} {σ' : Nat → Nat → Int32} {v0 x : Int32} (hsp : z_MV M_X10_top d 0 0 [.ref 0, .int v0] (124, z_r0, σ, τ) (some (.int x)) (124, z_r0, σ', τ)) : z_HV M_L_top H_L_top (d + 1) 0 0 [.ref 0, .int v0, .ref 123] (124, z_r0, σ, τ) (some (.int 0)) (124, z_r0, σ', z_up τ 123 0 x.toInt64) := by
  refine z_HV.of pn_L_top (Nat.le_of_ble_eq_true rfl) (by simp [Value.category]) rfl ?_
  show z_U _ _ _ _ _ _ _ _ _ [_, _, _, _] _ _
  refine zu_of ?_
  refine z_aload_n dL_top_0 rfl rfl ?_
  refine z_iconst (v := 0) dL_top_1 (by decide) ?_
  refine z_aload_n dL_top_2 rfl rfl ?_
  refine z_iload_n dL_top_3 rfl rfl ?_
  refine z_cV1 dL_top_4 ml_L_30 (hsp) rfl ⟨by decide, rfl⟩ rfl rfl (Nat.le_of_ble_eq_true rfl) ?_
  refine z_i2l dL_top_7 rfl ?_
  refine z_last (j := 0) dL_top_8 rfl nI_0.symm (by decide) ?_
  refine z_goto (tgt := 15) dL_top_9 (by decide) ?_
  refine z_iconst (v := 0) dL_top_15 (by decide) ?_
  exact z_iret dL_top_16 rfl rfl rfl
set_option maxRecDepth 100000 in
set_option maxHeartbeats 4000000 in
theorem lx_top {d : Nat} {σ : Nat → Nat → Int32} {τ : Nat → Nat → Int64} {σ' : Nat → Nat → Int32} {v0 : Int32} (hsp : z_XM M_X10_top d 1 6 [.ref 0, .int v0] (124, z_r0, σ, τ) "java/lang/IndexOutOfBoundsException" (124, z_r0, σ', τ)) : z_HV M_L_top H_L_top (d + 1) 1 6 [.ref 0, .int v0, .ref 123] (124, z_r0, σ, τ) (some (.int (1))) (124, z_r0, σ', τ) := by
  refine z_HV.of pn_L_top (Nat.le_of_ble_eq_true rfl) (by simp [Value.category]) rfl ?_
  show z_U _ _ _ _ _ _ _ _ _ [_, _, _, _] _ _
  refine zu_aload_n dL_top_0 rfl rfl ?_
  refine zu_iconst (v := 0) dL_top_1 (by decide) ?_
  refine zu_aload_n dL_top_2 rfl rfl ?_
  refine zu_iload_n dL_top_3 rfl rfl ?_
  refine zu_caught (hp := 12) (hpd := 13) (i := 3) (rc' := 0) (rs' := 0) dL_top_4 ml_L_30 hsp ⟨[], ⟨0, 9, 12, 28⟩, [], rfl, (fun z hz => by cases hz), by decide +kernel, by decide, cl_L_28, by decide +kernel, rfl⟩ (Or.inr ⟨3, rfl, dL_top_12, rfl⟩) (by decide) rfl ⟨by decide, rfl⟩ rfl rfl (Nat.le_of_ble_eq_true rfl) ⟨by decide, by decide⟩ ?_
  refine zu_of ?_
  show z_V _ _ _ _ _ _ _ _ _ [_, _, _, _] _ _
  refine z_iconst (v := 1) dL_top_13 (by decide) ?_
  exact z_iret dL_top_14 rfl rfl rfl
set_option maxRecDepth 100000 in
set_option maxHeartbeats 4000000 in
theorem lh_out {d : Nat} {σ : Nat → Nat → Int32} {τ : Nat → Nat → Int64} {σ' : Nat → Nat → Int32} {v0 x : Int32} (hsp : z_MV M_X10_out d 0 0 [.ref 0, .int v0] (124, z_r0, σ, τ) (some (.int x)) (124, z_r0, σ', τ)) : z_HV M_L_out H_L_out (d + 1) 0 0 [.ref 0, .int v0, .ref 123] (124, z_r0, σ, τ) (some (.int 0)) (124, z_r0, σ', z_up τ 123 0 x.toInt64) := by
  refine z_HV.of pn_L_out (Nat.le_of_ble_eq_true rfl) (by simp [Value.category]) rfl ?_
  show z_U _ _ _ _ _ _ _ _ _ [_, _, _, _] _ _
  refine zu_of ?_
  refine z_aload_n dL_out_0 rfl rfl ?_
  refine z_iconst (v := 0) dL_out_1 (by decide) ?_
  refine z_aload_n dL_out_2 rfl rfl ?_
  refine z_iload_n dL_out_3 rfl rfl ?_
  refine z_cV1 dL_out_4 ml_L_33 (hsp) rfl ⟨by decide, rfl⟩ rfl rfl (Nat.le_of_ble_eq_true rfl) ?_
  refine z_i2l dL_out_7 rfl ?_
  refine z_last (j := 0) dL_out_8 rfl nI_0.symm (by decide) ?_
  refine z_goto (tgt := 15) dL_out_9 (by decide) ?_
  refine z_iconst (v := 0) dL_out_15 (by decide) ?_
  exact z_iret dL_out_16 rfl rfl rfl
set_option maxRecDepth 100000 in
set_option maxHeartbeats 4000000 in
theorem lx_out {d : Nat} {σ : Nat → Nat → Int32} {τ : Nat → Nat → Int64} {σ' : Nat → Nat → Int32} {v0 : Int32} (hsp : z_XM M_X10_out d 1 6 [.ref 0, .int v0] (124, z_r0, σ, τ) "java/lang/IndexOutOfBoundsException" (124, z_r0, σ', τ)) : z_HV M_L_out H_L_out (d + 1) 1 6 [.ref 0, .int v0, .ref 123] (124, z_r0, σ, τ) (some (.int (1))) (124, z_r0, σ', τ) := by
  refine z_HV.of pn_L_out (Nat.le_of_ble_eq_true rfl) (by simp [Value.category]) rfl ?_
  show z_U _ _ _ _ _ _ _ _ _ [_, _, _, _] _ _
  refine zu_aload_n dL_out_0 rfl rfl ?_
  refine zu_iconst (v := 0) dL_out_1 (by decide) ?_
  refine zu_aload_n dL_out_2 rfl rfl ?_
  refine zu_iload_n dL_out_3 rfl rfl ?_
  refine zu_caught (hp := 12) (hpd := 13) (i := 3) (rc' := 0) (rs' := 0) dL_out_4 ml_L_33 hsp ⟨[], ⟨0, 9, 12, 28⟩, [], rfl, (fun z hz => by cases hz), by decide +kernel, by decide, cl_L_28, by decide +kernel, rfl⟩ (Or.inr ⟨3, rfl, dL_out_12, rfl⟩) (by decide) rfl ⟨by decide, rfl⟩ rfl rfl (Nat.le_of_ble_eq_true rfl) ⟨by decide, by decide⟩ ?_
  refine zu_of ?_
  show z_V _ _ _ _ _ _ _ _ _ [_, _, _, _] _ _
  refine z_iconst (v := 1) dL_out_13 (by decide) ?_
  exact z_iret dL_out_14 rfl rfl rfl
set_option maxRecDepth 100000 in
set_option maxHeartbeats 4000000 in
theorem lh_count {d : Nat} {σ : Nat → Nat → Int32} {τ : Nat → Nat → Int64} {σ' : Nat → Nat → Int32} {v0 x : Int32} (hsp : z_MV M_X10_count d 0 0 [.ref 0, .int v0] (124, z_r0, σ, τ) (some (.int x)) (124, z_r0, σ', τ)) : z_HV M_L_count H_L_count (d + 1) 0 0 [.ref 0, .int v0, .ref 123] (124, z_r0, σ, τ) (some (.int 0)) (124, z_r0, σ', z_up τ 123 0 x.toInt64) := by
  refine z_HV.of pn_L_count (Nat.le_of_ble_eq_true rfl) (by simp [Value.category]) rfl ?_
  show z_U _ _ _ _ _ _ _ _ _ [_, _, _, _] _ _
  refine zu_of ?_
  refine z_aload_n dL_count_0 rfl rfl ?_
  refine z_iconst (v := 0) dL_count_1 (by decide) ?_
  refine z_aload_n dL_count_2 rfl rfl ?_
  refine z_iload_n dL_count_3 rfl rfl ?_
  refine z_cV1 dL_count_4 ml_L_36 (hsp) rfl ⟨by decide, rfl⟩ rfl rfl (Nat.le_of_ble_eq_true rfl) ?_
  refine z_i2l dL_count_7 rfl ?_
  refine z_last (j := 0) dL_count_8 rfl nI_0.symm (by decide) ?_
  refine z_goto (tgt := 15) dL_count_9 (by decide) ?_
  refine z_iconst (v := 0) dL_count_15 (by decide) ?_
  exact z_iret dL_count_16 rfl rfl rfl
set_option maxRecDepth 100000 in
set_option maxHeartbeats 4000000 in
theorem lx_count {d : Nat} {σ : Nat → Nat → Int32} {τ : Nat → Nat → Int64} {σ' : Nat → Nat → Int32} {v0 : Int32} (hsp : z_XM M_X10_count d 1 6 [.ref 0, .int v0] (124, z_r0, σ, τ) "java/lang/IndexOutOfBoundsException" (124, z_r0, σ', τ)) : z_HV M_L_count H_L_count (d + 1) 1 6 [.ref 0, .int v0, .ref 123] (124, z_r0, σ, τ) (some (.int (1))) (124, z_r0, σ', τ) := by
  refine z_HV.of pn_L_count (Nat.le_of_ble_eq_true rfl) (by simp [Value.category]) rfl ?_
  show z_U _ _ _ _ _ _ _ _ _ [_, _, _, _] _ _
  refine zu_aload_n dL_count_0 rfl rfl ?_
  refine zu_iconst (v := 0) dL_count_1 (by decide) ?_
  refine zu_aload_n dL_count_2 rfl rfl ?_
  refine zu_iload_n dL_count_3 rfl rfl ?_
  refine zu_caught (hp := 12) (hpd := 13) (i := 3) (rc' := 0) (rs' := 0) dL_count_4 ml_L_36 hsp ⟨[], ⟨0, 9, 12, 28⟩, [], rfl, (fun z hz => by cases hz), by decide +kernel, by decide, cl_L_28, by decide +kernel, rfl⟩ (Or.inr ⟨3, rfl, dL_count_12, rfl⟩) (by decide) rfl ⟨by decide, rfl⟩ rfl rfl (Nat.le_of_ble_eq_true rfl) ⟨by decide, by decide⟩ ?_
  refine zu_of ?_
  show z_V _ _ _ _ _ _ _ _ _ [_, _, _, _] _ _
  refine z_iconst (v := 1) dL_count_13 (by decide) ?_
  exact z_iret dL_count_14 rfl rfl rfl
set_option maxRecDepth 100000 in
set_option maxHeartbeats 4000000 in
theorem lh_place {d : Nat} {σ : Nat → Nat → Int32} {τ : Nat → Nat → Int64} {σ' : Nat → Nat → Int32} {v0 v1 x : Int32} (hsp : z_MV M_X10_place d 0 0 [.ref 0, .int v0, .int v1] (124, z_r0, σ, τ) (some (.int x)) (124, z_r0, σ', τ)) : z_HV M_L_place H_L_place (d + 1) 0 0 [.ref 0, .int v0, .int v1, .ref 123] (124, z_r0, σ, τ) (some (.int 0)) (124, z_r0, σ', z_up τ 123 0 x.toInt64) := by
  refine z_HV.of pn_L_place (Nat.le_of_ble_eq_true rfl) (by simp [Value.category]) rfl ?_
  show z_U _ _ _ _ _ _ _ _ _ [_, _, _, _, _] _ _
  refine zu_of ?_
  refine z_aload_n dL_place_0 rfl rfl ?_
  refine z_iconst (v := 0) dL_place_1 (by decide) ?_
  refine z_aload_n dL_place_2 rfl rfl ?_
  refine z_iload_n dL_place_3 rfl rfl ?_
  refine z_iload_n dL_place_4 rfl rfl ?_
  refine z_cV1 dL_place_5 ml_L_39 (hsp) rfl ⟨by decide, rfl⟩ rfl rfl (Nat.le_of_ble_eq_true rfl) ?_
  refine z_i2l dL_place_8 rfl ?_
  refine z_last (j := 0) dL_place_9 rfl nI_0.symm (by decide) ?_
  refine z_goto (tgt := 17) dL_place_10 (by decide) ?_
  refine z_iconst (v := 0) dL_place_17 (by decide) ?_
  exact z_iret dL_place_18 rfl rfl rfl
set_option maxRecDepth 100000 in
set_option maxHeartbeats 4000000 in
theorem lx_place {d : Nat} {σ : Nat → Nat → Int32} {τ : Nat → Nat → Int64} {σ' : Nat → Nat → Int32} {v0 v1 : Int32} (hsp : z_XM M_X10_place d 1 6 [.ref 0, .int v0, .int v1] (124, z_r0, σ, τ) "java/lang/IndexOutOfBoundsException" (124, z_r0, σ', τ)) : z_HV M_L_place H_L_place (d + 1) 1 6 [.ref 0, .int v0, .int v1, .ref 123] (124, z_r0, σ, τ) (some (.int (1))) (124, z_r0, σ', τ) := by
  refine z_HV.of pn_L_place (Nat.le_of_ble_eq_true rfl) (by simp [Value.category]) rfl ?_
  show z_U _ _ _ _ _ _ _ _ _ [_, _, _, _, _] _ _
  refine zu_aload_n dL_place_0 rfl rfl ?_
  refine zu_iconst (v := 0) dL_place_1 (by decide) ?_
  refine zu_aload_n dL_place_2 rfl rfl ?_
  refine zu_iload_n dL_place_3 rfl rfl ?_
  refine zu_iload_n dL_place_4 rfl rfl ?_
  refine zu_caught (hp := 13) (hpd := 15) (i := 4) (rc' := 0) (rs' := 0) dL_place_5 ml_L_39 hsp ⟨[], ⟨0, 10, 13, 28⟩, [], rfl, (fun z hz => by cases hz), by decide +kernel, by decide, cl_L_28, by decide +kernel, rfl⟩ (Or.inl ⟨dL_place_13, rfl⟩) (by decide) rfl ⟨by decide, rfl⟩ rfl rfl (Nat.le_of_ble_eq_true rfl) ⟨by decide, by decide⟩ ?_
  refine zu_of ?_
  show z_V _ _ _ _ _ _ _ _ _ [_, _, _, _, _] _ _
  refine z_iconst (v := 1) dL_place_15 (by decide) ?_
  exact z_iret dL_place_16 rfl rfl rfl
set_option maxRecDepth 100000 in
set_option maxHeartbeats 4000000 in
theorem lh_trace {d : Nat} {σ : Nat → Nat → Int32} {τ : Nat → Nat → Int64} {σ' : Nat → Nat → Int32} {v0 v1 x : Int32} (hsp : z_MV M_X10_trace d 0 0 [.ref 0, .int v0, .int v1] (124, z_r0, σ, τ) (some (.int x)) (124, z_r0, σ', τ)) : z_HV M_L_trace H_L_trace (d + 1) 0 0 [.ref 0, .int v0, .int v1, .ref 123] (124, z_r0, σ, τ) (some (.int 0)) (124, z_r0, σ', z_up τ 123 0 x.toInt64) := by
  refine z_HV.of pn_L_trace (Nat.le_of_ble_eq_true rfl) (by simp [Value.category]) rfl ?_
  show z_U _ _ _ _ _ _ _ _ _ [_, _, _, _, _] _ _
  refine zu_of ?_
  refine z_aload_n dL_trace_0 rfl rfl ?_
  refine z_iconst (v := 0) dL_trace_1 (by decide) ?_
  refine z_aload_n dL_trace_2 rfl rfl ?_
  refine z_iload_n dL_trace_3 rfl rfl ?_
  refine z_iload_n dL_trace_4 rfl rfl ?_
  refine z_cV1 dL_trace_5 ml_L_42 (hsp) rfl ⟨by decide, rfl⟩ rfl rfl (Nat.le_of_ble_eq_true rfl) ?_
  refine z_i2l dL_trace_8 rfl ?_
  refine z_last (j := 0) dL_trace_9 rfl nI_0.symm (by decide) ?_
  refine z_goto (tgt := 17) dL_trace_10 (by decide) ?_
  refine z_iconst (v := 0) dL_trace_17 (by decide) ?_
  exact z_iret dL_trace_18 rfl rfl rfl
set_option maxRecDepth 100000 in
set_option maxHeartbeats 4000000 in
theorem lx_trace {d : Nat} {σ : Nat → Nat → Int32} {τ : Nat → Nat → Int64} {σ' : Nat → Nat → Int32} {v0 v1 : Int32} (hsp : z_XM M_X10_trace d 1 6 [.ref 0, .int v0, .int v1] (124, z_r0, σ, τ) "java/lang/IndexOutOfBoundsException" (124, z_r0, σ', τ)) : z_HV M_L_trace H_L_trace (d + 1) 1 6 [.ref 0, .int v0, .int v1, .ref 123] (124, z_r0, σ, τ) (some (.int (1))) (124, z_r0, σ', τ) := by
  refine z_HV.of pn_L_trace (Nat.le_of_ble_eq_true rfl) (by simp [Value.category]) rfl ?_
  show z_U _ _ _ _ _ _ _ _ _ [_, _, _, _, _] _ _
  refine zu_aload_n dL_trace_0 rfl rfl ?_
  refine zu_iconst (v := 0) dL_trace_1 (by decide) ?_
  refine zu_aload_n dL_trace_2 rfl rfl ?_
  refine zu_iload_n dL_trace_3 rfl rfl ?_
  refine zu_iload_n dL_trace_4 rfl rfl ?_
  refine zu_caught (hp := 13) (hpd := 15) (i := 4) (rc' := 0) (rs' := 0) dL_trace_5 ml_L_42 hsp ⟨[], ⟨0, 10, 13, 28⟩, [], rfl, (fun z hz => by cases hz), by decide +kernel, by decide, cl_L_28, by decide +kernel, rfl⟩ (Or.inl ⟨dL_trace_13, rfl⟩) (by decide) rfl ⟨by decide, rfl⟩ rfl rfl (Nat.le_of_ble_eq_true rfl) ⟨by decide, by decide⟩ ?_
  refine zu_of ?_
  show z_V _ _ _ _ _ _ _ _ _ [_, _, _, _, _] _ _
  refine z_iconst (v := 1) dL_trace_15 (by decide) ?_
  exact z_iret dL_trace_16 rfl rfl rfl
