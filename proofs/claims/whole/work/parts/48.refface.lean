/-! PART 48: TraceTierModel: the face -/
theorem b2_n {P : Prop} [Decidable P] (h : P) : ¬ b2i P = 0 := by rw [b2i_t h]; decide
theorem b2_e {P : Prop} [Decidable P] : b2i P = 0 ↔ ¬ P := by
  constructor
  · intro h p; exact b2_n p h
  · exact b2i_f
theorem z_uu (σ : Nat → Nat → Int32) (b j : Nat) (x y : Int32) : z_up (z_up σ b j x) b j y = z_up σ b j y := by
  funext a i
  simp only [z_up]
  split <;> rfl
theorem wi_n {a b : Nat} (h : a ≤ b) (hb : b < 2 ^ 31) : ¬ nI a < 0 ∧ ¬ nI b < nI a := ⟨nI_pos (by omega), nI_nlt h hb⟩
set_option maxRecDepth 100000 in
set_option maxHeartbeats 4000000 in
theorem sp_rlocal {d : Nat} {σ : Nat → Nat → Int32} {τ : Nat → Nat → Int64} {v : Nat} (hv : v < 6) : z_MV M_X11_local (d + 1) 0 0 [.ref 92, .int (nI v)] (124, z_r0, σ, τ) (some (.int (σ 96 v))) (124, z_r0, z_up σ 92 0 0, τ) := by
  refine z_MV.of pn_X11_local (Nat.le_of_ble_eq_true rfl) (by simp [Value.category]) rfl ?_
  show z_V _ _ _ _ _ _ _ _ _ [_, _] _ _
  refine z_aload_n dX11_local_0 rfl rfl ?_
  refine z_iconst (v := 0) dX11_local_1 (by decide) ?_
  refine z_putI dX11_local_2 fl_X11_111 rfl rfl (Or.inl rfl) rfl ?_
  refine z_iload_n dX11_local_5 rfl rfl ?_
  refine z_iconst (v := 0) dX11_local_6 (by decide) ?_
  refine z_iconst (v := nI 5) dX11_local_7 (by decide) ?_
  refine z_cS1 dX11_local_8 ml_X11_114 (sp_within) rfl rfl (Nat.le_of_ble_eq_true rfl) ?_
  refine z_if_eq (tgt := 23) dX11_local_11 (by decide) (fun c_ => absurd c_ (b2_n (wi_n (by omega) (by decide)))) (fun _ => ?_)
  refine z_aload_n dX11_local_14 rfl rfl ?_
  refine z_getR dX11_local_15 fl_X11_23 rfl rfl rfl ?_
  refine z_iload_n dX11_local_18 rfl rfl ?_
  refine z_iald dX11_local_19 rfl rfl (by omega) rfl ?_
  refine z_goto (tgt := 28) dX11_local_20 (by decide) ?_
  exact z_iret dX11_local_28 rfl rfl rfl
set_option maxRecDepth 100000 in
set_option maxHeartbeats 4000000 in
theorem sp_rlocal_no {d : Nat} {σ : Nat → Nat → Int32} {τ : Nat → Nat → Int64} {x : Int32} (h : ¬ (¬ x < 0 ∧ ¬ nI 5 < x)) : z_MV M_X11_local (d + 1) 0 0 [.ref 92, .int x] (124, z_r0, σ, τ) (some (.int 0)) (124, z_r0, z_up σ 92 0 1, τ) := by
  refine z_MV.of pn_X11_local (Nat.le_of_ble_eq_true rfl) (by simp [Value.category]) rfl ?_
  show z_V _ _ _ _ _ _ _ _ _ [_, _] _ _
  refine z_aload_n dX11_local_0 rfl rfl ?_
  refine z_iconst (v := 0) dX11_local_1 (by decide) ?_
  refine z_putI dX11_local_2 fl_X11_111 rfl rfl (Or.inl rfl) rfl ?_
  refine z_iload_n dX11_local_5 rfl rfl ?_
  refine z_iconst (v := 0) dX11_local_6 (by decide) ?_
  refine z_iconst (v := nI 5) dX11_local_7 (by decide) ?_
  refine z_cS1 dX11_local_8 ml_X11_114 (sp_within) rfl rfl (Nat.le_of_ble_eq_true rfl) ?_
  refine z_if_eq (tgt := 23) dX11_local_11 (by decide) (fun _ => ?_) (fun c_ => absurd (b2i_f h) c_)
  refine z_aload_n dX11_local_23 rfl rfl ?_
  refine z_iconst (v := 1) dX11_local_24 (by decide) ?_
  refine z_cV1 dX11_local_25 ml_X11_118 (sp_fail) rfl ⟨by decide, rfl⟩ rfl rfl (Nat.le_of_ble_eq_true rfl) ?_
  refine z_Vx (z_uu _ _ _ _ _).symm ?_
  exact z_iret dX11_local_28 rfl rfl rfl
set_option maxRecDepth 100000 in
set_option maxHeartbeats 4000000 in
theorem sp_rtop {d : Nat} {σ : Nat → Nat → Int32} {τ : Nat → Nat → Int64} {v e : Nat} (he : σ 92 9 = nI (e + 1)) (he8 : e < 8) (hv : v ≤ e) : z_MV M_X11_top (d + 1) 0 0 [.ref 92, .int (nI v)] (124, z_r0, σ, τ) (some (.int (σ 97 (e - v)))) (124, z_r0, z_up σ 92 0 0, τ) := by
  refine z_MV.of pn_X11_top (Nat.le_of_ble_eq_true rfl) (by simp [Value.category]) rfl ?_
  show z_V _ _ _ _ _ _ _ _ _ [_, _] _ _
  refine z_aload_n dX11_top_0 rfl rfl ?_
  refine z_iconst (v := 0) dX11_top_1 (by decide) ?_
  refine z_putI dX11_top_2 fl_X11_111 rfl rfl (Or.inl rfl) rfl ?_
  refine z_iload_n dX11_top_5 rfl rfl ?_
  refine z_iconst (v := 0) dX11_top_6 (by decide) ?_
  refine z_aload_n dX11_top_7 rfl rfl ?_
  refine z_getI dX11_top_8 fl_X11_139 rfl rfl (show _ = nI (e + 1) from he) ?_
  refine z_iconst (v := 1) dX11_top_11 (by decide) ?_
  refine z_isub dX11_top_12 (nI_pred e) ?_
  refine z_cS1 dX11_top_13 ml_X11_114 (sp_within) rfl rfl (Nat.le_of_ble_eq_true rfl) ?_
  refine z_if_eq (tgt := 35) dX11_top_16 (by decide) (fun c_ => absurd c_ (b2_n (wi_n (by omega) (by omega)))) (fun _ => ?_)
  refine z_aload_n dX11_top_19 rfl rfl ?_
  refine z_getR dX11_top_20 fl_X11_26 rfl rfl rfl ?_
  refine z_aload_n dX11_top_23 rfl rfl ?_
  refine z_getI dX11_top_24 fl_X11_139 rfl rfl (show _ = nI (e + 1) from he) ?_
  refine z_iconst (v := 1) dX11_top_27 (by decide) ?_
  refine z_isub dX11_top_28 (nI_pred e) ?_
  refine z_iload_n dX11_top_29 rfl rfl ?_
  refine z_isub dX11_top_30 (pk_sub (by omega)) ?_
  refine z_iald dX11_top_31 rfl rfl (by omega) rfl ?_
  refine z_goto (tgt := 40) dX11_top_32 (by decide) ?_
  exact z_iret dX11_top_40 rfl rfl rfl
set_option maxRecDepth 100000 in
set_option maxHeartbeats 4000000 in
theorem sp_rtop_no {d : Nat} {σ : Nat → Nat → Int32} {τ : Nat → Nat → Int64} {x : Int32} (h : ¬ (¬ x < 0 ∧ ¬ σ 92 9 - 1 < x)) : z_MV M_X11_top (d + 1) 0 0 [.ref 92, .int x] (124, z_r0, σ, τ) (some (.int 0)) (124, z_r0, z_up σ 92 0 1, τ) := by
  refine z_MV.of pn_X11_top (Nat.le_of_ble_eq_true rfl) (by simp [Value.category]) rfl ?_
  show z_V _ _ _ _ _ _ _ _ _ [_, _] _ _
  refine z_aload_n dX11_top_0 rfl rfl ?_
  refine z_iconst (v := 0) dX11_top_1 (by decide) ?_
  refine z_putI dX11_top_2 fl_X11_111 rfl rfl (Or.inl rfl) rfl ?_
  refine z_iload_n dX11_top_5 rfl rfl ?_
  refine z_iconst (v := 0) dX11_top_6 (by decide) ?_
  refine z_aload_n dX11_top_7 rfl rfl ?_
  refine z_getI dX11_top_8 fl_X11_139 rfl rfl rfl ?_
  refine z_iconst (v := 1) dX11_top_11 (by decide) ?_
  refine z_isub dX11_top_12 rfl ?_
  refine z_cS1 dX11_top_13 ml_X11_114 (sp_within) rfl rfl (Nat.le_of_ble_eq_true rfl) ?_
  refine z_if_eq (tgt := 35) dX11_top_16 (by decide) (fun _ => ?_) (fun c_ => absurd (b2i_f h) c_)
  refine z_aload_n dX11_top_35 rfl rfl ?_
  refine z_iconst (v := 1) dX11_top_36 (by decide) ?_
  refine z_cV1 dX11_top_37 ml_X11_118 (sp_fail) rfl ⟨by decide, rfl⟩ rfl rfl (Nat.le_of_ble_eq_true rfl) ?_
  refine z_Vx (z_uu _ _ _ _ _).symm ?_
  exact z_iret dX11_top_40 rfl rfl rfl
set_option maxRecDepth 100000 in
set_option maxHeartbeats 4000000 in
theorem sp_routs {d : Nat} {σ : Nat → Nat → Int32} {τ : Nat → Nat → Int64} : z_MV M_X11_outs d 0 0 [.ref 92] (124, z_r0, σ, τ) (some (.int (σ 92 11))) (124, z_r0, z_up σ 92 0 0, τ) := by
  refine z_MV.of pn_X11_outs (Nat.le_of_ble_eq_true rfl) (by simp [Value.category]) rfl ?_
  show z_V _ _ _ _ _ _ _ _ _ [_] _ _
  refine z_aload_n dX11_outs_0 rfl rfl ?_
  refine z_iconst (v := 0) dX11_outs_1 (by decide) ?_
  refine z_putI dX11_outs_2 fl_X11_111 rfl rfl (Or.inl rfl) rfl ?_
  refine z_aload_n dX11_outs_5 rfl rfl ?_
  refine z_getI dX11_outs_6 fl_X11_142 rfl rfl rfl ?_
  exact z_iret dX11_outs_9 rfl rfl rfl
set_option maxRecDepth 100000 in
set_option maxHeartbeats 4000000 in
theorem sp_rout {d : Nat} {σ : Nat → Nat → Int32} {τ : Nat → Nat → Int64} {v : Nat} (hv : v < 30) (h : ¬ σ 92 11 ≤ nI v) : z_MV M_X11_out (d + 1) 0 0 [.ref 92, .int (nI v)] (124, z_r0, σ, τ) (some (.int (σ 98 v))) (124, z_r0, z_up σ 92 0 0, τ) := by
  refine z_MV.of pn_X11_out (Nat.le_of_ble_eq_true rfl) (by simp [Value.category]) rfl ?_
  show z_V _ _ _ _ _ _ _ _ _ [_, _] _ _
  refine z_aload_n dX11_out_0 rfl rfl ?_
  refine z_iconst (v := 0) dX11_out_1 (by decide) ?_
  refine z_putI dX11_out_2 fl_X11_111 rfl rfl (Or.inl rfl) rfl ?_
  refine z_iload_n dX11_out_5 rfl rfl ?_
  refine z_iconst (v := 0) dX11_out_6 (by decide) ?_
  refine z_bipush (v := nI 29) dX11_out_7 (by decide) ?_
  refine z_cS1 dX11_out_9 ml_X11_114 (sp_within) rfl rfl (Nat.le_of_ble_eq_true rfl) ?_
  refine z_if_eq (tgt := 32) dX11_out_12 (by decide) (fun c_ => absurd c_ (b2_n (wi_n (by omega) (by decide)))) (fun _ => ?_)
  refine z_iload_n dX11_out_15 rfl rfl ?_
  refine z_aload_n dX11_out_16 rfl rfl ?_
  refine z_getI dX11_out_17 fl_X11_142 rfl rfl rfl ?_
  refine z_icmp_ge (tgt := 32) dX11_out_20 (by decide) (fun c_ => absurd c_ (h)) (fun _ => ?_)
  refine z_aload_n dX11_out_23 rfl rfl ?_
  refine z_getR dX11_out_24 fl_X11_29 rfl rfl rfl ?_
  refine z_iload_n dX11_out_27 rfl rfl ?_
  refine z_iald dX11_out_28 rfl rfl (by omega) rfl ?_
  refine z_goto (tgt := 37) dX11_out_29 (by decide) ?_
  exact z_iret dX11_out_37 rfl rfl rfl
set_option maxRecDepth 100000 in
set_option maxHeartbeats 4000000 in
theorem sp_rout_no {d : Nat} {σ : Nat → Nat → Int32} {τ : Nat → Nat → Int64} {x : Int32} (h : (¬ x < 0 ∧ ¬ nI 29 < x) → σ 92 11 ≤ x) : z_MV M_X11_out (d + 1) 0 0 [.ref 92, .int x] (124, z_r0, σ, τ) (some (.int 0)) (124, z_r0, z_up σ 92 0 1, τ) := by
  refine z_MV.of pn_X11_out (Nat.le_of_ble_eq_true rfl) (by simp [Value.category]) rfl ?_
  show z_V _ _ _ _ _ _ _ _ _ [_, _] _ _
  refine z_aload_n dX11_out_0 rfl rfl ?_
  refine z_iconst (v := 0) dX11_out_1 (by decide) ?_
  refine z_putI dX11_out_2 fl_X11_111 rfl rfl (Or.inl rfl) rfl ?_
  refine z_iload_n dX11_out_5 rfl rfl ?_
  refine z_iconst (v := 0) dX11_out_6 (by decide) ?_
  refine z_bipush (v := nI 29) dX11_out_7 (by decide) ?_
  refine z_cS1 dX11_out_9 ml_X11_114 (sp_within) rfl rfl (Nat.le_of_ble_eq_true rfl) ?_
  refine z_if_eq (tgt := 32) dX11_out_12 (by decide) (fun c12 => ?_) (fun c12 => ?_)
  · refine z_aload_n dX11_out_32 rfl rfl ?_
    refine z_iconst (v := 1) dX11_out_33 (by decide) ?_
    refine z_cV1 dX11_out_34 ml_X11_118 (sp_fail) rfl ⟨by decide, rfl⟩ rfl rfl (Nat.le_of_ble_eq_true rfl) ?_
    refine z_Vx (z_uu _ _ _ _ _).symm ?_
    exact z_iret dX11_out_37 rfl rfl rfl
  · rw [b2_e] at c12
    simp only [Classical.not_not] at c12
    refine z_iload_n dX11_out_15 rfl rfl ?_
    refine z_aload_n dX11_out_16 rfl rfl ?_
    refine z_getI dX11_out_17 fl_X11_142 rfl rfl rfl ?_
    refine z_icmp_ge (tgt := 32) dX11_out_20 (by decide) (fun c20 => ?_) (fun c20 => ?_)
    · refine z_aload_n dX11_out_32 rfl rfl ?_
      refine z_iconst (v := 1) dX11_out_33 (by decide) ?_
      refine z_cV1 dX11_out_34 ml_X11_118 (sp_fail) rfl ⟨by decide, rfl⟩ rfl rfl (Nat.le_of_ble_eq_true rfl) ?_
      refine z_Vx (z_uu _ _ _ _ _).symm ?_
      exact z_iret dX11_out_37 rfl rfl rfl
    · exact absurd c20 (Classical.not_not.mpr (h c12))
set_option maxRecDepth 100000 in
set_option maxHeartbeats 4000000 in
theorem sp_rcount_0 {d : Nat} {σ : Nat → Nat → Int32} {τ : Nat → Nat → Int64} : z_MV M_X11_count (d + 1) 0 0 [.ref 92, .int (0)] (124, z_r0, σ, τ) (some (.int (σ 92 7))) (124, z_r0, z_up σ 92 0 0, τ) := by
  refine z_MV.of pn_X11_count (Nat.le_of_ble_eq_true rfl) (by simp [Value.category]) rfl ?_
  show z_V _ _ _ _ _ _ _ _ _ [_, _] _ _
  refine z_aload_n dX11_count_0 rfl rfl ?_
  refine z_iconst (v := 0) dX11_count_1 (by decide) ?_
  refine z_putI dX11_count_2 fl_X11_111 rfl rfl (Or.inl rfl) rfl ?_
  refine z_iload_n dX11_count_5 rfl rfl ?_
  refine z_iconst (v := 0) dX11_count_6 (by decide) ?_
  refine z_bipush (v := nI 6) dX11_count_7 (by decide) ?_
  refine z_cS1 dX11_count_9 ml_X11_114 (sp_within) rfl rfl (Nat.le_of_ble_eq_true rfl) ?_
  refine z_if_ne (tgt := 21) dX11_count_12 (by decide) (fun _ => ?_) (fun c_ => absurd c_ (by decide))
  refine z_iload_n dX11_count_21 rfl rfl ?_
  refine z_iconst (v := nI 3) dX11_count_22 (by decide) ?_
  refine z_icmp_ge (tgt := 54) dX11_count_23 (by decide) (fun c_ => absurd c_ (by decide +kernel)) (fun _ => ?_)
  refine z_iload_n dX11_count_26 rfl rfl ?_
  refine z_if_ne (tgt := 37) dX11_count_27 (by decide) (fun c_ => absurd (by decide +kernel) c_) (fun _ => ?_)
  refine z_aload_n dX11_count_30 rfl rfl ?_
  refine z_getI dX11_count_31 fl_X11_19 rfl rfl rfl ?_
  refine z_goto (tgt := 53) dX11_count_34 (by decide) ?_
  exact z_iret dX11_count_53 rfl rfl rfl
set_option maxRecDepth 100000 in
set_option maxHeartbeats 4000000 in
theorem sp_rcount_1 {d : Nat} {σ : Nat → Nat → Int32} {τ : Nat → Nat → Int64} : z_MV M_X11_count (d + 1) 0 0 [.ref 92, .int (1)] (124, z_r0, σ, τ) (some (.int (σ 92 31))) (124, z_r0, z_up σ 92 0 0, τ) := by
  refine z_MV.of pn_X11_count (Nat.le_of_ble_eq_true rfl) (by simp [Value.category]) rfl ?_
  show z_V _ _ _ _ _ _ _ _ _ [_, _] _ _
  refine z_aload_n dX11_count_0 rfl rfl ?_
  refine z_iconst (v := 0) dX11_count_1 (by decide) ?_
  refine z_putI dX11_count_2 fl_X11_111 rfl rfl (Or.inl rfl) rfl ?_
  refine z_iload_n dX11_count_5 rfl rfl ?_
  refine z_iconst (v := 0) dX11_count_6 (by decide) ?_
  refine z_bipush (v := nI 6) dX11_count_7 (by decide) ?_
  refine z_cS1 dX11_count_9 ml_X11_114 (sp_within) rfl rfl (Nat.le_of_ble_eq_true rfl) ?_
  refine z_if_ne (tgt := 21) dX11_count_12 (by decide) (fun _ => ?_) (fun c_ => absurd c_ (by decide))
  refine z_iload_n dX11_count_21 rfl rfl ?_
  refine z_iconst (v := nI 3) dX11_count_22 (by decide) ?_
  refine z_icmp_ge (tgt := 54) dX11_count_23 (by decide) (fun c_ => absurd c_ (by decide +kernel)) (fun _ => ?_)
  refine z_iload_n dX11_count_26 rfl rfl ?_
  refine z_if_ne (tgt := 37) dX11_count_27 (by decide) (fun _ => ?_) (fun c_ => absurd c_ (by decide +kernel))
  refine z_iload_n dX11_count_37 rfl rfl ?_
  refine z_iconst (v := 1) dX11_count_38 (by decide) ?_
  refine z_icmp_ne (tgt := 49) dX11_count_39 (by decide) (fun c_ => absurd (by decide +kernel) c_) (fun _ => ?_)
  refine z_aload_n dX11_count_42 rfl rfl ?_
  refine z_getI dX11_count_43 fl_X11_148 rfl rfl rfl ?_
  refine z_goto (tgt := 53) dX11_count_46 (by decide) ?_
  exact z_iret dX11_count_53 rfl rfl rfl
set_option maxRecDepth 100000 in
set_option maxHeartbeats 4000000 in
theorem sp_rcount_2 {d : Nat} {σ : Nat → Nat → Int32} {τ : Nat → Nat → Int64} : z_MV M_X11_count (d + 1) 0 0 [.ref 92, .int (nI 2)] (124, z_r0, σ, τ) (some (.int (σ 92 32))) (124, z_r0, z_up σ 92 0 0, τ) := by
  refine z_MV.of pn_X11_count (Nat.le_of_ble_eq_true rfl) (by simp [Value.category]) rfl ?_
  show z_V _ _ _ _ _ _ _ _ _ [_, _] _ _
  refine z_aload_n dX11_count_0 rfl rfl ?_
  refine z_iconst (v := 0) dX11_count_1 (by decide) ?_
  refine z_putI dX11_count_2 fl_X11_111 rfl rfl (Or.inl rfl) rfl ?_
  refine z_iload_n dX11_count_5 rfl rfl ?_
  refine z_iconst (v := 0) dX11_count_6 (by decide) ?_
  refine z_bipush (v := nI 6) dX11_count_7 (by decide) ?_
  refine z_cS1 dX11_count_9 ml_X11_114 (sp_within) rfl rfl (Nat.le_of_ble_eq_true rfl) ?_
  refine z_if_ne (tgt := 21) dX11_count_12 (by decide) (fun _ => ?_) (fun c_ => absurd c_ (by decide))
  refine z_iload_n dX11_count_21 rfl rfl ?_
  refine z_iconst (v := nI 3) dX11_count_22 (by decide) ?_
  refine z_icmp_ge (tgt := 54) dX11_count_23 (by decide) (fun c_ => absurd c_ (by decide +kernel)) (fun _ => ?_)
  refine z_iload_n dX11_count_26 rfl rfl ?_
  refine z_if_ne (tgt := 37) dX11_count_27 (by decide) (fun _ => ?_) (fun c_ => absurd c_ (by decide +kernel))
  refine z_iload_n dX11_count_37 rfl rfl ?_
  refine z_iconst (v := 1) dX11_count_38 (by decide) ?_
  refine z_icmp_ne (tgt := 49) dX11_count_39 (by decide) (fun _ => ?_) (fun c_ => absurd c_ (by decide +kernel))
  refine z_aload_n dX11_count_49 rfl rfl ?_
  refine z_getI dX11_count_50 fl_X11_151 rfl rfl rfl ?_
  exact z_iret dX11_count_53 rfl rfl rfl
set_option maxRecDepth 100000 in
set_option maxHeartbeats 4000000 in
theorem sp_rcount_3 {d : Nat} {σ : Nat → Nat → Int32} {τ : Nat → Nat → Int64} : z_MV M_X11_count (d + 1) 0 0 [.ref 92, .int (nI 3)] (124, z_r0, σ, τ) (some (.int (σ 92 33))) (124, z_r0, z_up σ 92 0 0, τ) := by
  refine z_MV.of pn_X11_count (Nat.le_of_ble_eq_true rfl) (by simp [Value.category]) rfl ?_
  show z_V _ _ _ _ _ _ _ _ _ [_, _] _ _
  refine z_aload_n dX11_count_0 rfl rfl ?_
  refine z_iconst (v := 0) dX11_count_1 (by decide) ?_
  refine z_putI dX11_count_2 fl_X11_111 rfl rfl (Or.inl rfl) rfl ?_
  refine z_iload_n dX11_count_5 rfl rfl ?_
  refine z_iconst (v := 0) dX11_count_6 (by decide) ?_
  refine z_bipush (v := nI 6) dX11_count_7 (by decide) ?_
  refine z_cS1 dX11_count_9 ml_X11_114 (sp_within) rfl rfl (Nat.le_of_ble_eq_true rfl) ?_
  refine z_if_ne (tgt := 21) dX11_count_12 (by decide) (fun _ => ?_) (fun c_ => absurd c_ (by decide))
  refine z_iload_n dX11_count_21 rfl rfl ?_
  refine z_iconst (v := nI 3) dX11_count_22 (by decide) ?_
  refine z_icmp_ge (tgt := 54) dX11_count_23 (by decide) (fun _ => ?_) (fun c_ => absurd (by decide +kernel) c_)
  refine z_iload_n dX11_count_54 rfl rfl ?_
  refine z_iconst (v := nI 3) dX11_count_55 (by decide) ?_
  refine z_icmp_ne (tgt := 66) dX11_count_56 (by decide) (fun c_ => absurd (by decide +kernel) c_) (fun _ => ?_)
  refine z_aload_n dX11_count_59 rfl rfl ?_
  refine z_getI dX11_count_60 fl_X11_154 rfl rfl rfl ?_
  refine z_goto (tgt := 102) dX11_count_63 (by decide) ?_
  exact z_iret dX11_count_102 rfl rfl rfl
set_option maxRecDepth 100000 in
set_option maxHeartbeats 4000000 in
theorem sp_rcount_4 {d : Nat} {σ : Nat → Nat → Int32} {τ : Nat → Nat → Int64} : z_MV M_X11_count (d + 1) 0 0 [.ref 92, .int (nI 4)] (124, z_r0, σ, τ) (some (.int (σ 92 34))) (124, z_r0, z_up σ 92 0 0, τ) := by
  refine z_MV.of pn_X11_count (Nat.le_of_ble_eq_true rfl) (by simp [Value.category]) rfl ?_
  show z_V _ _ _ _ _ _ _ _ _ [_, _] _ _
  refine z_aload_n dX11_count_0 rfl rfl ?_
  refine z_iconst (v := 0) dX11_count_1 (by decide) ?_
  refine z_putI dX11_count_2 fl_X11_111 rfl rfl (Or.inl rfl) rfl ?_
  refine z_iload_n dX11_count_5 rfl rfl ?_
  refine z_iconst (v := 0) dX11_count_6 (by decide) ?_
  refine z_bipush (v := nI 6) dX11_count_7 (by decide) ?_
  refine z_cS1 dX11_count_9 ml_X11_114 (sp_within) rfl rfl (Nat.le_of_ble_eq_true rfl) ?_
  refine z_if_ne (tgt := 21) dX11_count_12 (by decide) (fun _ => ?_) (fun c_ => absurd c_ (by decide))
  refine z_iload_n dX11_count_21 rfl rfl ?_
  refine z_iconst (v := nI 3) dX11_count_22 (by decide) ?_
  refine z_icmp_ge (tgt := 54) dX11_count_23 (by decide) (fun _ => ?_) (fun c_ => absurd (by decide +kernel) c_)
  refine z_iload_n dX11_count_54 rfl rfl ?_
  refine z_iconst (v := nI 3) dX11_count_55 (by decide) ?_
  refine z_icmp_ne (tgt := 66) dX11_count_56 (by decide) (fun _ => ?_) (fun c_ => absurd c_ (by decide +kernel))
  refine z_iload_n dX11_count_66 rfl rfl ?_
  refine z_iconst (v := nI 4) dX11_count_67 (by decide) ?_
  refine z_icmp_ne (tgt := 78) dX11_count_68 (by decide) (fun c_ => absurd (by decide +kernel) c_) (fun _ => ?_)
  refine z_aload_n dX11_count_71 rfl rfl ?_
  refine z_getI dX11_count_72 fl_X11_157 rfl rfl rfl ?_
  refine z_goto (tgt := 102) dX11_count_75 (by decide) ?_
  exact z_iret dX11_count_102 rfl rfl rfl
set_option maxRecDepth 100000 in
set_option maxHeartbeats 4000000 in
theorem sp_rcount_5 {d : Nat} {σ : Nat → Nat → Int32} {τ : Nat → Nat → Int64} : z_MV M_X11_count (d + 1) 0 0 [.ref 92, .int (nI 5)] (124, z_r0, σ, τ) (some (.int (σ 92 19))) (124, z_r0, z_up σ 92 0 0, τ) := by
  refine z_MV.of pn_X11_count (Nat.le_of_ble_eq_true rfl) (by simp [Value.category]) rfl ?_
  show z_V _ _ _ _ _ _ _ _ _ [_, _] _ _
  refine z_aload_n dX11_count_0 rfl rfl ?_
  refine z_iconst (v := 0) dX11_count_1 (by decide) ?_
  refine z_putI dX11_count_2 fl_X11_111 rfl rfl (Or.inl rfl) rfl ?_
  refine z_iload_n dX11_count_5 rfl rfl ?_
  refine z_iconst (v := 0) dX11_count_6 (by decide) ?_
  refine z_bipush (v := nI 6) dX11_count_7 (by decide) ?_
  refine z_cS1 dX11_count_9 ml_X11_114 (sp_within) rfl rfl (Nat.le_of_ble_eq_true rfl) ?_
  refine z_if_ne (tgt := 21) dX11_count_12 (by decide) (fun _ => ?_) (fun c_ => absurd c_ (by decide))
  refine z_iload_n dX11_count_21 rfl rfl ?_
  refine z_iconst (v := nI 3) dX11_count_22 (by decide) ?_
  refine z_icmp_ge (tgt := 54) dX11_count_23 (by decide) (fun _ => ?_) (fun c_ => absurd (by decide +kernel) c_)
  refine z_iload_n dX11_count_54 rfl rfl ?_
  refine z_iconst (v := nI 3) dX11_count_55 (by decide) ?_
  refine z_icmp_ne (tgt := 66) dX11_count_56 (by decide) (fun _ => ?_) (fun c_ => absurd c_ (by decide +kernel))
  refine z_iload_n dX11_count_66 rfl rfl ?_
  refine z_iconst (v := nI 4) dX11_count_67 (by decide) ?_
  refine z_icmp_ne (tgt := 78) dX11_count_68 (by decide) (fun _ => ?_) (fun c_ => absurd c_ (by decide +kernel))
  refine z_iload_n dX11_count_78 rfl rfl ?_
  refine z_iconst (v := nI 5) dX11_count_79 (by decide) ?_
  refine z_icmp_ne (tgt := 90) dX11_count_80 (by decide) (fun c_ => absurd (by decide +kernel) c_) (fun _ => ?_)
  refine z_aload_n dX11_count_83 rfl rfl ?_
  refine z_getI dX11_count_84 fl_X11_145 rfl rfl rfl ?_
  refine z_goto (tgt := 102) dX11_count_87 (by decide) ?_
  exact z_iret dX11_count_102 rfl rfl rfl
set_option maxRecDepth 100000 in
set_option maxHeartbeats 4000000 in
theorem sp_rcount_6 {d : Nat} {σ : Nat → Nat → Int32} {τ : Nat → Nat → Int64} : z_MV M_X11_count (d + 1) 0 0 [.ref 92, .int (nI 6)] (124, z_r0, σ, τ) (some (.int (b2i (¬ σ 92 15 < 0)))) (124, z_r0, z_up σ 92 0 0, τ) := by
  refine z_MV.of pn_X11_count (Nat.le_of_ble_eq_true rfl) (by simp [Value.category]) rfl ?_
  show z_V _ _ _ _ _ _ _ _ _ [_, _] _ _
  refine z_aload_n dX11_count_0 rfl rfl ?_
  refine z_iconst (v := 0) dX11_count_1 (by decide) ?_
  refine z_putI dX11_count_2 fl_X11_111 rfl rfl (Or.inl rfl) rfl ?_
  refine z_iload_n dX11_count_5 rfl rfl ?_
  refine z_iconst (v := 0) dX11_count_6 (by decide) ?_
  refine z_bipush (v := nI 6) dX11_count_7 (by decide) ?_
  refine z_cS1 dX11_count_9 ml_X11_114 (sp_within) rfl rfl (Nat.le_of_ble_eq_true rfl) ?_
  refine z_if_ne (tgt := 21) dX11_count_12 (by decide) (fun _ => ?_) (fun c_ => absurd c_ (by decide))
  refine z_iload_n dX11_count_21 rfl rfl ?_
  refine z_iconst (v := nI 3) dX11_count_22 (by decide) ?_
  refine z_icmp_ge (tgt := 54) dX11_count_23 (by decide) (fun _ => ?_) (fun c_ => absurd (by decide +kernel) c_)
  refine z_iload_n dX11_count_54 rfl rfl ?_
  refine z_iconst (v := nI 3) dX11_count_55 (by decide) ?_
  refine z_icmp_ne (tgt := 66) dX11_count_56 (by decide) (fun _ => ?_) (fun c_ => absurd c_ (by decide +kernel))
  refine z_iload_n dX11_count_66 rfl rfl ?_
  refine z_iconst (v := nI 4) dX11_count_67 (by decide) ?_
  refine z_icmp_ne (tgt := 78) dX11_count_68 (by decide) (fun _ => ?_) (fun c_ => absurd c_ (by decide +kernel))
  refine z_iload_n dX11_count_78 rfl rfl ?_
  refine z_iconst (v := nI 5) dX11_count_79 (by decide) ?_
  refine z_icmp_ne (tgt := 90) dX11_count_80 (by decide) (fun _ => ?_) (fun c_ => absurd c_ (by decide +kernel))
  refine z_aload_n dX11_count_90 rfl rfl ?_
  refine z_getI dX11_count_91 fl_X11_38 rfl rfl rfl ?_
  refine z_if_lt (tgt := 101) dX11_count_94 (by decide) (fun c94 => ?_) (fun c94 => ?_)
  · rw [b2i_f (fun z => z (show σ 92 15 < 0 from c94))]
    refine z_iconst (v := 0) dX11_count_101 (by decide) ?_
    exact z_iret dX11_count_102 rfl rfl rfl
  · rw [b2i_t (show ¬ σ 92 15 < 0 from c94)]
    refine z_iconst (v := 1) dX11_count_97 (by decide) ?_
    refine z_goto (tgt := 102) dX11_count_98 (by decide) ?_
    exact z_iret dX11_count_102 rfl rfl rfl
set_option maxRecDepth 100000 in
set_option maxHeartbeats 4000000 in
theorem sp_rcount_no {d : Nat} {σ : Nat → Nat → Int32} {τ : Nat → Nat → Int64} {x : Int32} (h : ¬ (¬ x < 0 ∧ ¬ nI 6 < x)) : z_MV M_X11_count (d + 1) 0 0 [.ref 92, .int x] (124, z_r0, σ, τ) (some (.int 0)) (124, z_r0, z_up σ 92 0 1, τ) := by
  refine z_MV.of pn_X11_count (Nat.le_of_ble_eq_true rfl) (by simp [Value.category]) rfl ?_
  show z_V _ _ _ _ _ _ _ _ _ [_, _] _ _
  refine z_aload_n dX11_count_0 rfl rfl ?_
  refine z_iconst (v := 0) dX11_count_1 (by decide) ?_
  refine z_putI dX11_count_2 fl_X11_111 rfl rfl (Or.inl rfl) rfl ?_
  refine z_iload_n dX11_count_5 rfl rfl ?_
  refine z_iconst (v := 0) dX11_count_6 (by decide) ?_
  refine z_bipush (v := nI 6) dX11_count_7 (by decide) ?_
  refine z_cS1 dX11_count_9 ml_X11_114 (sp_within) rfl rfl (Nat.le_of_ble_eq_true rfl) ?_
  refine z_if_ne (tgt := 21) dX11_count_12 (by decide) (fun c_ => absurd (b2i_f h) c_) (fun _ => ?_)
  refine z_aload_n dX11_count_15 rfl rfl ?_
  refine z_iconst (v := 1) dX11_count_16 (by decide) ?_
  refine z_cV1 dX11_count_17 ml_X11_118 (sp_fail) rfl ⟨by decide, rfl⟩ rfl rfl (Nat.le_of_ble_eq_true rfl) ?_
  refine z_Vx (z_uu _ _ _ _ _).symm ?_
  exact z_iret dX11_count_20 rfl rfl rfl
set_option maxRecDepth 100000 in
set_option maxHeartbeats 4000000 in
theorem sp_rplace_0 {d : Nat} {σ : Nat → Nat → Int32} {τ : Nat → Nat → Int64} {v n : Nat} (hn : σ 92 1 = nI (n + 1)) (hn40 : n < 40) (hv : v ≤ n) : z_MV M_X11_place (d + 1) 0 0 [.ref 92, .int (nI v), .int 0] (124, z_r0, σ, τ) (some (.int (σ 99 v))) (124, z_r0, z_up σ 92 0 0, τ) := by
  refine z_MV.of pn_X11_place (Nat.le_of_ble_eq_true rfl) (by simp [Value.category]) rfl ?_
  show z_V _ _ _ _ _ _ _ _ _ [_, _, _] _ _
  refine z_aload_n dX11_place_0 rfl rfl ?_
  refine z_iconst (v := 0) dX11_place_1 (by decide) ?_
  refine z_putI dX11_place_2 fl_X11_111 rfl rfl (Or.inl rfl) rfl ?_
  refine z_iload_n dX11_place_5 rfl rfl ?_
  refine z_iconst (v := 0) dX11_place_6 (by decide) ?_
  refine z_aload_n dX11_place_7 rfl rfl ?_
  refine z_getI dX11_place_8 fl_X11_122 rfl rfl (show _ = nI (n + 1) from hn) ?_
  refine z_iconst (v := 1) dX11_place_11 (by decide) ?_
  refine z_isub dX11_place_12 (nI_pred n) ?_
  refine z_cS1 dX11_place_13 ml_X11_114 (sp_within) rfl rfl (Nat.le_of_ble_eq_true rfl) ?_
  refine z_if_eq (tgt := 28) dX11_place_16 (by decide) (fun c_ => absurd c_ (b2_n (wi_n (by omega) (by omega)))) (fun _ => ?_)
  refine z_iload_n dX11_place_19 rfl rfl ?_
  refine z_iconst (v := 0) dX11_place_20 (by decide) ?_
  refine z_iconst (v := 1) dX11_place_21 (by decide) ?_
  refine z_cS1 dX11_place_22 ml_X11_114 (sp_within) rfl rfl (Nat.le_of_ble_eq_true rfl) ?_
  refine z_if_ne (tgt := 34) dX11_place_25 (by decide) (fun _ => ?_) (fun c_ => absurd c_ (by decide))
  refine z_iload_n dX11_place_34 rfl rfl ?_
  refine z_if_ne (tgt := 47) dX11_place_35 (by decide) (fun c_ => absurd (by decide +kernel) c_) (fun _ => ?_)
  refine z_aload_n dX11_place_38 rfl rfl ?_
  refine z_getR dX11_place_39 fl_X11_32 rfl rfl rfl ?_
  refine z_iload_n dX11_place_42 rfl rfl ?_
  refine z_iald dX11_place_43 rfl rfl (by omega) rfl ?_
  refine z_goto (tgt := 53) dX11_place_44 (by decide) ?_
  exact z_iret dX11_place_53 rfl rfl rfl
set_option maxRecDepth 100000 in
set_option maxHeartbeats 4000000 in
theorem sp_rplace_1 {d : Nat} {σ : Nat → Nat → Int32} {τ : Nat → Nat → Int64} {v n : Nat} (hn : σ 92 1 = nI (n + 1)) (hn40 : n < 40) (hv : v ≤ n) : z_MV M_X11_place (d + 1) 0 0 [.ref 92, .int (nI v), .int 1] (124, z_r0, σ, τ) (some (.int (σ 100 v))) (124, z_r0, z_up σ 92 0 0, τ) := by
  refine z_MV.of pn_X11_place (Nat.le_of_ble_eq_true rfl) (by simp [Value.category]) rfl ?_
  show z_V _ _ _ _ _ _ _ _ _ [_, _, _] _ _
  refine z_aload_n dX11_place_0 rfl rfl ?_
  refine z_iconst (v := 0) dX11_place_1 (by decide) ?_
  refine z_putI dX11_place_2 fl_X11_111 rfl rfl (Or.inl rfl) rfl ?_
  refine z_iload_n dX11_place_5 rfl rfl ?_
  refine z_iconst (v := 0) dX11_place_6 (by decide) ?_
  refine z_aload_n dX11_place_7 rfl rfl ?_
  refine z_getI dX11_place_8 fl_X11_122 rfl rfl (show _ = nI (n + 1) from hn) ?_
  refine z_iconst (v := 1) dX11_place_11 (by decide) ?_
  refine z_isub dX11_place_12 (nI_pred n) ?_
  refine z_cS1 dX11_place_13 ml_X11_114 (sp_within) rfl rfl (Nat.le_of_ble_eq_true rfl) ?_
  refine z_if_eq (tgt := 28) dX11_place_16 (by decide) (fun c_ => absurd c_ (b2_n (wi_n (by omega) (by omega)))) (fun _ => ?_)
  refine z_iload_n dX11_place_19 rfl rfl ?_
  refine z_iconst (v := 0) dX11_place_20 (by decide) ?_
  refine z_iconst (v := 1) dX11_place_21 (by decide) ?_
  refine z_cS1 dX11_place_22 ml_X11_114 (sp_within) rfl rfl (Nat.le_of_ble_eq_true rfl) ?_
  refine z_if_ne (tgt := 34) dX11_place_25 (by decide) (fun _ => ?_) (fun c_ => absurd c_ (by decide))
  refine z_iload_n dX11_place_34 rfl rfl ?_
  refine z_if_ne (tgt := 47) dX11_place_35 (by decide) (fun _ => ?_) (fun c_ => absurd c_ (by decide +kernel))
  refine z_aload_n dX11_place_47 rfl rfl ?_
  refine z_getR dX11_place_48 fl_X11_35 rfl rfl rfl ?_
  refine z_iload_n dX11_place_51 rfl rfl ?_
  refine z_iald dX11_place_52 rfl rfl (by omega) rfl ?_
  exact z_iret dX11_place_53 rfl rfl rfl
set_option maxRecDepth 100000 in
set_option maxHeartbeats 4000000 in
theorem sp_rplace_no {d : Nat} {σ : Nat → Nat → Int32} {τ : Nat → Nat → Int64} {x y : Int32} (h : ¬ ((¬ x < 0 ∧ ¬ σ 92 1 - 1 < x) ∧ (¬ y < 0 ∧ ¬ 1 < y))) : z_MV M_X11_place (d + 1) 0 0 [.ref 92, .int x, .int y] (124, z_r0, σ, τ) (some (.int 0)) (124, z_r0, z_up σ 92 0 1, τ) := by
  refine z_MV.of pn_X11_place (Nat.le_of_ble_eq_true rfl) (by simp [Value.category]) rfl ?_
  show z_V _ _ _ _ _ _ _ _ _ [_, _, _] _ _
  refine z_aload_n dX11_place_0 rfl rfl ?_
  refine z_iconst (v := 0) dX11_place_1 (by decide) ?_
  refine z_putI dX11_place_2 fl_X11_111 rfl rfl (Or.inl rfl) rfl ?_
  refine z_iload_n dX11_place_5 rfl rfl ?_
  refine z_iconst (v := 0) dX11_place_6 (by decide) ?_
  refine z_aload_n dX11_place_7 rfl rfl ?_
  refine z_getI dX11_place_8 fl_X11_122 rfl rfl rfl ?_
  refine z_iconst (v := 1) dX11_place_11 (by decide) ?_
  refine z_isub dX11_place_12 rfl ?_
  refine z_cS1 dX11_place_13 ml_X11_114 (sp_within) rfl rfl (Nat.le_of_ble_eq_true rfl) ?_
  refine z_if_eq (tgt := 28) dX11_place_16 (by decide) (fun c16 => ?_) (fun c16 => ?_)
  · refine z_aload_n dX11_place_28 rfl rfl ?_
    refine z_iconst (v := 1) dX11_place_29 (by decide) ?_
    refine z_cV1 dX11_place_30 ml_X11_118 (sp_fail) rfl ⟨by decide, rfl⟩ rfl rfl (Nat.le_of_ble_eq_true rfl) ?_
    refine z_Vx (z_uu _ _ _ _ _).symm ?_
    exact z_iret dX11_place_33 rfl rfl rfl
  · rw [b2_e] at c16
    simp only [Classical.not_not] at c16
    refine z_iload_n dX11_place_19 rfl rfl ?_
    refine z_iconst (v := 0) dX11_place_20 (by decide) ?_
    refine z_iconst (v := 1) dX11_place_21 (by decide) ?_
    refine z_cS1 dX11_place_22 ml_X11_114 (sp_within) rfl rfl (Nat.le_of_ble_eq_true rfl) ?_
    refine z_if_ne (tgt := 34) dX11_place_25 (by decide) (fun c_ => absurd (b2i_f (fun z => h ⟨c16, z⟩)) c_) (fun _ => ?_)
    refine z_aload_n dX11_place_28 rfl rfl ?_
    refine z_iconst (v := 1) dX11_place_29 (by decide) ?_
    refine z_cV1 dX11_place_30 ml_X11_118 (sp_fail) rfl ⟨by decide, rfl⟩ rfl rfl (Nat.le_of_ble_eq_true rfl) ?_
    refine z_Vx (z_uu _ _ _ _ _).symm ?_
    exact z_iret dX11_place_33 rfl rfl rfl
set_option maxRecDepth 100000 in
set_option maxHeartbeats 4000000 in
theorem sp_rtrace_0 {d : Nat} {σ : Nat → Nat → Int32} {τ : Nat → Nat → Int64} {v n : Nat} (hn : σ 92 19 = nI (n + 1)) (hn4 : n < 4) (hv : v ≤ n) : z_MV M_X11_trace (d + 1) 0 0 [.ref 92, .int (nI v), .int (0)] (124, z_r0, σ, τ) (some (.int (σ 103 v))) (124, z_r0, z_up σ 92 0 0, τ) := by
  refine z_MV.of pn_X11_trace (Nat.le_of_ble_eq_true rfl) (by simp [Value.category]) rfl ?_
  show z_V _ _ _ _ _ _ _ _ _ [_, _, _] _ _
  refine z_aload_n dX11_trace_0 rfl rfl ?_
  refine z_iconst (v := 0) dX11_trace_1 (by decide) ?_
  refine z_putI dX11_trace_2 fl_X11_111 rfl rfl (Or.inl rfl) rfl ?_
  refine z_iload_n dX11_trace_5 rfl rfl ?_
  refine z_iconst (v := 0) dX11_trace_6 (by decide) ?_
  refine z_aload_n dX11_trace_7 rfl rfl ?_
  refine z_getI dX11_trace_8 fl_X11_145 rfl rfl (show _ = nI (n + 1) from hn) ?_
  refine z_iconst (v := 1) dX11_trace_11 (by decide) ?_
  refine z_isub dX11_trace_12 (nI_pred n) ?_
  refine z_cS1 dX11_trace_13 ml_X11_114 (sp_within) rfl rfl (Nat.le_of_ble_eq_true rfl) ?_
  refine z_if_eq (tgt := 28) dX11_trace_16 (by decide) (fun c_ => absurd c_ (b2_n (wi_n (by omega) (by omega)))) (fun _ => ?_)
  refine z_iload_n dX11_trace_19 rfl rfl ?_
  refine z_iconst (v := 0) dX11_trace_20 (by decide) ?_
  refine z_iconst (v := nI 5) dX11_trace_21 (by decide) ?_
  refine z_cS1 dX11_trace_22 ml_X11_114 (sp_within) rfl rfl (Nat.le_of_ble_eq_true rfl) ?_
  refine z_if_ne (tgt := 34) dX11_trace_25 (by decide) (fun _ => ?_) (fun c_ => absurd c_ (by decide))
  refine z_iload_n dX11_trace_34 rfl rfl ?_
  refine z_iconst (v := nI 3) dX11_trace_35 (by decide) ?_
  refine z_icmp_ge (tgt := 73) dX11_trace_36 (by decide) (fun c_ => absurd c_ (by decide +kernel)) (fun _ => ?_)
  refine z_iload_n dX11_trace_39 rfl rfl ?_
  refine z_if_ne (tgt := 52) dX11_trace_40 (by decide) (fun c_ => absurd (by decide +kernel) c_) (fun _ => ?_)
  refine z_aload_n dX11_trace_43 rfl rfl ?_
  refine z_getR dX11_trace_44 fl_X11_51 rfl rfl rfl ?_
  refine z_iload_n dX11_trace_47 rfl rfl ?_
  refine z_iald dX11_trace_48 rfl rfl (by omega) rfl ?_
  refine z_goto (tgt := 72) dX11_trace_49 (by decide) ?_
  exact z_iret dX11_trace_72 rfl rfl rfl
set_option maxRecDepth 100000 in
set_option maxHeartbeats 4000000 in
theorem sp_rtrace_1 {d : Nat} {σ : Nat → Nat → Int32} {τ : Nat → Nat → Int64} {v n : Nat} (hn : σ 92 19 = nI (n + 1)) (hn4 : n < 4) (hv : v ≤ n) : z_MV M_X11_trace (d + 1) 0 0 [.ref 92, .int (nI v), .int (1)] (124, z_r0, σ, τ) (some (.int (σ 108 v))) (124, z_r0, z_up σ 92 0 0, τ) := by
  refine z_MV.of pn_X11_trace (Nat.le_of_ble_eq_true rfl) (by simp [Value.category]) rfl ?_
  show z_V _ _ _ _ _ _ _ _ _ [_, _, _] _ _
  refine z_aload_n dX11_trace_0 rfl rfl ?_
  refine z_iconst (v := 0) dX11_trace_1 (by decide) ?_
  refine z_putI dX11_trace_2 fl_X11_111 rfl rfl (Or.inl rfl) rfl ?_
  refine z_iload_n dX11_trace_5 rfl rfl ?_
  refine z_iconst (v := 0) dX11_trace_6 (by decide) ?_
  refine z_aload_n dX11_trace_7 rfl rfl ?_
  refine z_getI dX11_trace_8 fl_X11_145 rfl rfl (show _ = nI (n + 1) from hn) ?_
  refine z_iconst (v := 1) dX11_trace_11 (by decide) ?_
  refine z_isub dX11_trace_12 (nI_pred n) ?_
  refine z_cS1 dX11_trace_13 ml_X11_114 (sp_within) rfl rfl (Nat.le_of_ble_eq_true rfl) ?_
  refine z_if_eq (tgt := 28) dX11_trace_16 (by decide) (fun c_ => absurd c_ (b2_n (wi_n (by omega) (by omega)))) (fun _ => ?_)
  refine z_iload_n dX11_trace_19 rfl rfl ?_
  refine z_iconst (v := 0) dX11_trace_20 (by decide) ?_
  refine z_iconst (v := nI 5) dX11_trace_21 (by decide) ?_
  refine z_cS1 dX11_trace_22 ml_X11_114 (sp_within) rfl rfl (Nat.le_of_ble_eq_true rfl) ?_
  refine z_if_ne (tgt := 34) dX11_trace_25 (by decide) (fun _ => ?_) (fun c_ => absurd c_ (by decide))
  refine z_iload_n dX11_trace_34 rfl rfl ?_
  refine z_iconst (v := nI 3) dX11_trace_35 (by decide) ?_
  refine z_icmp_ge (tgt := 73) dX11_trace_36 (by decide) (fun c_ => absurd c_ (by decide +kernel)) (fun _ => ?_)
  refine z_iload_n dX11_trace_39 rfl rfl ?_
  refine z_if_ne (tgt := 52) dX11_trace_40 (by decide) (fun _ => ?_) (fun c_ => absurd c_ (by decide +kernel))
  refine z_iload_n dX11_trace_52 rfl rfl ?_
  refine z_iconst (v := 1) dX11_trace_53 (by decide) ?_
  refine z_icmp_ne (tgt := 66) dX11_trace_54 (by decide) (fun c_ => absurd (by decide +kernel) c_) (fun _ => ?_)
  refine z_aload_n dX11_trace_57 rfl rfl ?_
  refine z_getR dX11_trace_58 fl_X11_66 rfl rfl rfl ?_
  refine z_iload_n dX11_trace_61 rfl rfl ?_
  refine z_iald dX11_trace_62 rfl rfl (by omega) rfl ?_
  refine z_goto (tgt := 72) dX11_trace_63 (by decide) ?_
  exact z_iret dX11_trace_72 rfl rfl rfl
set_option maxRecDepth 100000 in
set_option maxHeartbeats 4000000 in
theorem sp_rtrace_2 {d : Nat} {σ : Nat → Nat → Int32} {τ : Nat → Nat → Int64} {v n : Nat} (hn : σ 92 19 = nI (n + 1)) (hn4 : n < 4) (hv : v ≤ n) : z_MV M_X11_trace (d + 1) 0 0 [.ref 92, .int (nI v), .int (nI 2)] (124, z_r0, σ, τ) (some (.int (σ 109 v))) (124, z_r0, z_up σ 92 0 0, τ) := by
  refine z_MV.of pn_X11_trace (Nat.le_of_ble_eq_true rfl) (by simp [Value.category]) rfl ?_
  show z_V _ _ _ _ _ _ _ _ _ [_, _, _] _ _
  refine z_aload_n dX11_trace_0 rfl rfl ?_
  refine z_iconst (v := 0) dX11_trace_1 (by decide) ?_
  refine z_putI dX11_trace_2 fl_X11_111 rfl rfl (Or.inl rfl) rfl ?_
  refine z_iload_n dX11_trace_5 rfl rfl ?_
  refine z_iconst (v := 0) dX11_trace_6 (by decide) ?_
  refine z_aload_n dX11_trace_7 rfl rfl ?_
  refine z_getI dX11_trace_8 fl_X11_145 rfl rfl (show _ = nI (n + 1) from hn) ?_
  refine z_iconst (v := 1) dX11_trace_11 (by decide) ?_
  refine z_isub dX11_trace_12 (nI_pred n) ?_
  refine z_cS1 dX11_trace_13 ml_X11_114 (sp_within) rfl rfl (Nat.le_of_ble_eq_true rfl) ?_
  refine z_if_eq (tgt := 28) dX11_trace_16 (by decide) (fun c_ => absurd c_ (b2_n (wi_n (by omega) (by omega)))) (fun _ => ?_)
  refine z_iload_n dX11_trace_19 rfl rfl ?_
  refine z_iconst (v := 0) dX11_trace_20 (by decide) ?_
  refine z_iconst (v := nI 5) dX11_trace_21 (by decide) ?_
  refine z_cS1 dX11_trace_22 ml_X11_114 (sp_within) rfl rfl (Nat.le_of_ble_eq_true rfl) ?_
  refine z_if_ne (tgt := 34) dX11_trace_25 (by decide) (fun _ => ?_) (fun c_ => absurd c_ (by decide))
  refine z_iload_n dX11_trace_34 rfl rfl ?_
  refine z_iconst (v := nI 3) dX11_trace_35 (by decide) ?_
  refine z_icmp_ge (tgt := 73) dX11_trace_36 (by decide) (fun c_ => absurd c_ (by decide +kernel)) (fun _ => ?_)
  refine z_iload_n dX11_trace_39 rfl rfl ?_
  refine z_if_ne (tgt := 52) dX11_trace_40 (by decide) (fun _ => ?_) (fun c_ => absurd c_ (by decide +kernel))
  refine z_iload_n dX11_trace_52 rfl rfl ?_
  refine z_iconst (v := 1) dX11_trace_53 (by decide) ?_
  refine z_icmp_ne (tgt := 66) dX11_trace_54 (by decide) (fun _ => ?_) (fun c_ => absurd c_ (by decide +kernel))
  refine z_aload_n dX11_trace_66 rfl rfl ?_
  refine z_getR dX11_trace_67 fl_X11_69 rfl rfl rfl ?_
  refine z_iload_n dX11_trace_70 rfl rfl ?_
  refine z_iald dX11_trace_71 rfl rfl (by omega) rfl ?_
  exact z_iret dX11_trace_72 rfl rfl rfl
set_option maxRecDepth 100000 in
set_option maxHeartbeats 4000000 in
theorem sp_rtrace_3 {d : Nat} {σ : Nat → Nat → Int32} {τ : Nat → Nat → Int64} {v n : Nat} (hn : σ 92 19 = nI (n + 1)) (hn4 : n < 4) (hv : v ≤ n) : z_MV M_X11_trace (d + 1) 0 0 [.ref 92, .int (nI v), .int (nI 3)] (124, z_r0, σ, τ) (some (.int (σ 110 v))) (124, z_r0, z_up σ 92 0 0, τ) := by
  refine z_MV.of pn_X11_trace (Nat.le_of_ble_eq_true rfl) (by simp [Value.category]) rfl ?_
  show z_V _ _ _ _ _ _ _ _ _ [_, _, _] _ _
  refine z_aload_n dX11_trace_0 rfl rfl ?_
  refine z_iconst (v := 0) dX11_trace_1 (by decide) ?_
  refine z_putI dX11_trace_2 fl_X11_111 rfl rfl (Or.inl rfl) rfl ?_
  refine z_iload_n dX11_trace_5 rfl rfl ?_
  refine z_iconst (v := 0) dX11_trace_6 (by decide) ?_
  refine z_aload_n dX11_trace_7 rfl rfl ?_
  refine z_getI dX11_trace_8 fl_X11_145 rfl rfl (show _ = nI (n + 1) from hn) ?_
  refine z_iconst (v := 1) dX11_trace_11 (by decide) ?_
  refine z_isub dX11_trace_12 (nI_pred n) ?_
  refine z_cS1 dX11_trace_13 ml_X11_114 (sp_within) rfl rfl (Nat.le_of_ble_eq_true rfl) ?_
  refine z_if_eq (tgt := 28) dX11_trace_16 (by decide) (fun c_ => absurd c_ (b2_n (wi_n (by omega) (by omega)))) (fun _ => ?_)
  refine z_iload_n dX11_trace_19 rfl rfl ?_
  refine z_iconst (v := 0) dX11_trace_20 (by decide) ?_
  refine z_iconst (v := nI 5) dX11_trace_21 (by decide) ?_
  refine z_cS1 dX11_trace_22 ml_X11_114 (sp_within) rfl rfl (Nat.le_of_ble_eq_true rfl) ?_
  refine z_if_ne (tgt := 34) dX11_trace_25 (by decide) (fun _ => ?_) (fun c_ => absurd c_ (by decide))
  refine z_iload_n dX11_trace_34 rfl rfl ?_
  refine z_iconst (v := nI 3) dX11_trace_35 (by decide) ?_
  refine z_icmp_ge (tgt := 73) dX11_trace_36 (by decide) (fun _ => ?_) (fun c_ => absurd (by decide +kernel) c_)
  refine z_iload_n dX11_trace_73 rfl rfl ?_
  refine z_iconst (v := nI 3) dX11_trace_74 (by decide) ?_
  refine z_icmp_ne (tgt := 87) dX11_trace_75 (by decide) (fun c_ => absurd (by decide +kernel) c_) (fun _ => ?_)
  refine z_aload_n dX11_trace_78 rfl rfl ?_
  refine z_getR dX11_trace_79 fl_X11_72 rfl rfl rfl ?_
  refine z_iload_n dX11_trace_82 rfl rfl ?_
  refine z_iald dX11_trace_83 rfl rfl (by omega) rfl ?_
  refine z_goto (tgt := 107) dX11_trace_84 (by decide) ?_
  exact z_iret dX11_trace_107 rfl rfl rfl
set_option maxRecDepth 100000 in
set_option maxHeartbeats 4000000 in
theorem sp_rtrace_4 {d : Nat} {σ : Nat → Nat → Int32} {τ : Nat → Nat → Int64} {v n : Nat} (hn : σ 92 19 = nI (n + 1)) (hn4 : n < 4) (hv : v ≤ n) : z_MV M_X11_trace (d + 1) 0 0 [.ref 92, .int (nI v), .int (nI 4)] (124, z_r0, σ, τ) (some (.int (σ 111 v))) (124, z_r0, z_up σ 92 0 0, τ) := by
  refine z_MV.of pn_X11_trace (Nat.le_of_ble_eq_true rfl) (by simp [Value.category]) rfl ?_
  show z_V _ _ _ _ _ _ _ _ _ [_, _, _] _ _
  refine z_aload_n dX11_trace_0 rfl rfl ?_
  refine z_iconst (v := 0) dX11_trace_1 (by decide) ?_
  refine z_putI dX11_trace_2 fl_X11_111 rfl rfl (Or.inl rfl) rfl ?_
  refine z_iload_n dX11_trace_5 rfl rfl ?_
  refine z_iconst (v := 0) dX11_trace_6 (by decide) ?_
  refine z_aload_n dX11_trace_7 rfl rfl ?_
  refine z_getI dX11_trace_8 fl_X11_145 rfl rfl (show _ = nI (n + 1) from hn) ?_
  refine z_iconst (v := 1) dX11_trace_11 (by decide) ?_
  refine z_isub dX11_trace_12 (nI_pred n) ?_
  refine z_cS1 dX11_trace_13 ml_X11_114 (sp_within) rfl rfl (Nat.le_of_ble_eq_true rfl) ?_
  refine z_if_eq (tgt := 28) dX11_trace_16 (by decide) (fun c_ => absurd c_ (b2_n (wi_n (by omega) (by omega)))) (fun _ => ?_)
  refine z_iload_n dX11_trace_19 rfl rfl ?_
  refine z_iconst (v := 0) dX11_trace_20 (by decide) ?_
  refine z_iconst (v := nI 5) dX11_trace_21 (by decide) ?_
  refine z_cS1 dX11_trace_22 ml_X11_114 (sp_within) rfl rfl (Nat.le_of_ble_eq_true rfl) ?_
  refine z_if_ne (tgt := 34) dX11_trace_25 (by decide) (fun _ => ?_) (fun c_ => absurd c_ (by decide))
  refine z_iload_n dX11_trace_34 rfl rfl ?_
  refine z_iconst (v := nI 3) dX11_trace_35 (by decide) ?_
  refine z_icmp_ge (tgt := 73) dX11_trace_36 (by decide) (fun _ => ?_) (fun c_ => absurd (by decide +kernel) c_)
  refine z_iload_n dX11_trace_73 rfl rfl ?_
  refine z_iconst (v := nI 3) dX11_trace_74 (by decide) ?_
  refine z_icmp_ne (tgt := 87) dX11_trace_75 (by decide) (fun _ => ?_) (fun c_ => absurd c_ (by decide +kernel))
  refine z_iload_n dX11_trace_87 rfl rfl ?_
  refine z_iconst (v := nI 4) dX11_trace_88 (by decide) ?_
  refine z_icmp_ne (tgt := 101) dX11_trace_89 (by decide) (fun c_ => absurd (by decide +kernel) c_) (fun _ => ?_)
  refine z_aload_n dX11_trace_92 rfl rfl ?_
  refine z_getR dX11_trace_93 fl_X11_75 rfl rfl rfl ?_
  refine z_iload_n dX11_trace_96 rfl rfl ?_
  refine z_iald dX11_trace_97 rfl rfl (by omega) rfl ?_
  refine z_goto (tgt := 107) dX11_trace_98 (by decide) ?_
  exact z_iret dX11_trace_107 rfl rfl rfl
set_option maxRecDepth 100000 in
set_option maxHeartbeats 4000000 in
theorem sp_rtrace_5 {d : Nat} {σ : Nat → Nat → Int32} {τ : Nat → Nat → Int64} {v n : Nat} (hn : σ 92 19 = nI (n + 1)) (hn4 : n < 4) (hv : v ≤ n) : z_MV M_X11_trace (d + 1) 0 0 [.ref 92, .int (nI v), .int (nI 5)] (124, z_r0, σ, τ) (some (.int (σ 112 v))) (124, z_r0, z_up σ 92 0 0, τ) := by
  refine z_MV.of pn_X11_trace (Nat.le_of_ble_eq_true rfl) (by simp [Value.category]) rfl ?_
  show z_V _ _ _ _ _ _ _ _ _ [_, _, _] _ _
  refine z_aload_n dX11_trace_0 rfl rfl ?_
  refine z_iconst (v := 0) dX11_trace_1 (by decide) ?_
  refine z_putI dX11_trace_2 fl_X11_111 rfl rfl (Or.inl rfl) rfl ?_
  refine z_iload_n dX11_trace_5 rfl rfl ?_
  refine z_iconst (v := 0) dX11_trace_6 (by decide) ?_
  refine z_aload_n dX11_trace_7 rfl rfl ?_
  refine z_getI dX11_trace_8 fl_X11_145 rfl rfl (show _ = nI (n + 1) from hn) ?_
  refine z_iconst (v := 1) dX11_trace_11 (by decide) ?_
  refine z_isub dX11_trace_12 (nI_pred n) ?_
  refine z_cS1 dX11_trace_13 ml_X11_114 (sp_within) rfl rfl (Nat.le_of_ble_eq_true rfl) ?_
  refine z_if_eq (tgt := 28) dX11_trace_16 (by decide) (fun c_ => absurd c_ (b2_n (wi_n (by omega) (by omega)))) (fun _ => ?_)
  refine z_iload_n dX11_trace_19 rfl rfl ?_
  refine z_iconst (v := 0) dX11_trace_20 (by decide) ?_
  refine z_iconst (v := nI 5) dX11_trace_21 (by decide) ?_
  refine z_cS1 dX11_trace_22 ml_X11_114 (sp_within) rfl rfl (Nat.le_of_ble_eq_true rfl) ?_
  refine z_if_ne (tgt := 34) dX11_trace_25 (by decide) (fun _ => ?_) (fun c_ => absurd c_ (by decide))
  refine z_iload_n dX11_trace_34 rfl rfl ?_
  refine z_iconst (v := nI 3) dX11_trace_35 (by decide) ?_
  refine z_icmp_ge (tgt := 73) dX11_trace_36 (by decide) (fun _ => ?_) (fun c_ => absurd (by decide +kernel) c_)
  refine z_iload_n dX11_trace_73 rfl rfl ?_
  refine z_iconst (v := nI 3) dX11_trace_74 (by decide) ?_
  refine z_icmp_ne (tgt := 87) dX11_trace_75 (by decide) (fun _ => ?_) (fun c_ => absurd c_ (by decide +kernel))
  refine z_iload_n dX11_trace_87 rfl rfl ?_
  refine z_iconst (v := nI 4) dX11_trace_88 (by decide) ?_
  refine z_icmp_ne (tgt := 101) dX11_trace_89 (by decide) (fun _ => ?_) (fun c_ => absurd c_ (by decide +kernel))
  refine z_aload_n dX11_trace_101 rfl rfl ?_
  refine z_getR dX11_trace_102 fl_X11_78 rfl rfl rfl ?_
  refine z_iload_n dX11_trace_105 rfl rfl ?_
  refine z_iald dX11_trace_106 rfl rfl (by omega) rfl ?_
  exact z_iret dX11_trace_107 rfl rfl rfl
set_option maxRecDepth 100000 in
set_option maxHeartbeats 4000000 in
theorem sp_rtrace_no {d : Nat} {σ : Nat → Nat → Int32} {τ : Nat → Nat → Int64} {x y : Int32} (h : ¬ ((¬ x < 0 ∧ ¬ σ 92 19 - 1 < x) ∧ (¬ y < 0 ∧ ¬ nI 5 < y))) : z_MV M_X11_trace (d + 1) 0 0 [.ref 92, .int x, .int y] (124, z_r0, σ, τ) (some (.int 0)) (124, z_r0, z_up σ 92 0 1, τ) := by
  refine z_MV.of pn_X11_trace (Nat.le_of_ble_eq_true rfl) (by simp [Value.category]) rfl ?_
  show z_V _ _ _ _ _ _ _ _ _ [_, _, _] _ _
  refine z_aload_n dX11_trace_0 rfl rfl ?_
  refine z_iconst (v := 0) dX11_trace_1 (by decide) ?_
  refine z_putI dX11_trace_2 fl_X11_111 rfl rfl (Or.inl rfl) rfl ?_
  refine z_iload_n dX11_trace_5 rfl rfl ?_
  refine z_iconst (v := 0) dX11_trace_6 (by decide) ?_
  refine z_aload_n dX11_trace_7 rfl rfl ?_
  refine z_getI dX11_trace_8 fl_X11_145 rfl rfl rfl ?_
  refine z_iconst (v := 1) dX11_trace_11 (by decide) ?_
  refine z_isub dX11_trace_12 rfl ?_
  refine z_cS1 dX11_trace_13 ml_X11_114 (sp_within) rfl rfl (Nat.le_of_ble_eq_true rfl) ?_
  refine z_if_eq (tgt := 28) dX11_trace_16 (by decide) (fun c16 => ?_) (fun c16 => ?_)
  · refine z_aload_n dX11_trace_28 rfl rfl ?_
    refine z_iconst (v := 1) dX11_trace_29 (by decide) ?_
    refine z_cV1 dX11_trace_30 ml_X11_118 (sp_fail) rfl ⟨by decide, rfl⟩ rfl rfl (Nat.le_of_ble_eq_true rfl) ?_
    refine z_Vx (z_uu _ _ _ _ _).symm ?_
    exact z_iret dX11_trace_33 rfl rfl rfl
  · rw [b2_e] at c16
    simp only [Classical.not_not] at c16
    refine z_iload_n dX11_trace_19 rfl rfl ?_
    refine z_iconst (v := 0) dX11_trace_20 (by decide) ?_
    refine z_iconst (v := nI 5) dX11_trace_21 (by decide) ?_
    refine z_cS1 dX11_trace_22 ml_X11_114 (sp_within) rfl rfl (Nat.le_of_ble_eq_true rfl) ?_
    refine z_if_ne (tgt := 34) dX11_trace_25 (by decide) (fun c_ => absurd (b2i_f (fun z => h ⟨c16, z⟩)) c_) (fun _ => ?_)
    refine z_aload_n dX11_trace_28 rfl rfl ?_
    refine z_iconst (v := 1) dX11_trace_29 (by decide) ?_
    refine z_cV1 dX11_trace_30 ml_X11_118 (sp_fail) rfl ⟨by decide, rfl⟩ rfl rfl (Nat.le_of_ble_eq_true rfl) ?_
    refine z_Vx (z_uu _ _ _ _ _).symm ?_
    exact z_iret dX11_trace_33 rfl rfl rfl
def rcl (σ : Nat → Nat → Int32) : Nat → Nat → Int32 := z_up (z_up (frS (z_up (z_up σ 92 0 0) 92 1 0)) 92 7 (-1)) 92 5 0
set_option maxRecDepth 100000 in
set_option maxHeartbeats 4000000 in
theorem sp_rclear {d : Nat} {σ : Nat → Nat → Int32} {τ : Nat → Nat → Int64} : z_MV M_X11_clear (d + 1) 0 0 [.ref 92] (124, z_r0, σ, τ) (some (.int (σ 92 1))) (124, z_r0, rcl σ, τ) := by
  refine z_MV.of pn_X11_clear (Nat.le_of_ble_eq_true rfl) (by simp [Value.category]) rfl ?_
  show z_V _ _ _ _ _ _ _ _ _ [_, _] _ _
  refine z_aload_n dX11_clear_0 rfl rfl ?_
  refine z_iconst (v := 0) dX11_clear_1 (by decide) ?_
  refine z_putI dX11_clear_2 fl_X11_111 rfl rfl (Or.inl rfl) rfl ?_
  refine z_aload_n dX11_clear_5 rfl rfl ?_
  refine z_getI dX11_clear_6 fl_X11_122 rfl rfl rfl ?_
  refine z_istore_n dX11_clear_9 rfl (by decide) ?_
  show z_V _ _ _ _ _ _ _ _ _ [_, _] _ _
  refine z_aload_n dX11_clear_10 rfl rfl ?_
  refine z_iconst (v := 0) dX11_clear_11 (by decide) ?_
  refine z_putI dX11_clear_12 fl_X11_122 rfl rfl (Or.inl rfl) rfl ?_
  refine z_aload_n dX11_clear_15 rfl rfl ?_
  refine z_cV0 dX11_clear_16 ml_X11_164 (sp_fresh) rfl ⟨by decide, rfl⟩ rfl rfl (Nat.le_of_ble_eq_true rfl) ?_
  refine z_aload_n dX11_clear_19 rfl rfl ?_
  refine z_iconst (v := (-1)) dX11_clear_20 (by decide) ?_
  refine z_putI dX11_clear_21 fl_X11_19 rfl rfl (Or.inl rfl) rfl ?_
  refine z_aload_n dX11_clear_24 rfl rfl ?_
  refine z_iconst (v := 0) dX11_clear_25 (by decide) ?_
  refine z_putI dX11_clear_26 fl_X11_125 rfl rfl (Or.inr ⟨rfl, (by first | exact Or.inl rfl | exact Or.inr rfl)⟩) rfl ?_
  refine z_iload_n dX11_clear_29 rfl rfl ?_
  exact z_iret dX11_clear_30 rfl rfl rfl
def rbg (σ : Nat → Nat → Int32) (a b w : Int32) : Nat → Nat → Int32 := z_up (z_up (z_up (z_up (z_up (frS σ) 96 0 a) 96 1 b) 92 7 0) 92 6 w) 92 5 1
set_option maxRecDepth 100000 in
set_option maxHeartbeats 4000000 in
theorem sp_rbegin {d : Nat} {σ : Nat → Nat → Int32} {τ : Nat → Nat → Int64} {n : Nat} (h40 : n ≤ 40) (hn : σ 92 1 = nI n) (hw : wfR σ n) {a b w : Int32} (hw01 : w = 0 ∨ w = 1) (hs : ¬ (rsnd (z_up σ 92 0 0) n).1 = 0) (hbb : (rsnd (z_up σ 92 0 0) n).2 92 5 = 0 ∨ (rsnd (z_up σ 92 0 0) n).2 92 5 = 1) : z_MV M_X11_begin (d + 3) 0 0 [.ref 92, .int a, .int b, .int w] (124, z_r0, σ, τ) (some (.int ((rsnd (z_up σ 92 0 0) n).2 92 5))) (124, z_r0, rbg (rsnd (z_up σ 92 0 0) n).2 a b w, τ) := by
  refine z_MV.of pn_X11_begin (Nat.le_of_ble_eq_true rfl) (by simp [Value.category]) rfl ?_
  show z_V _ _ _ _ _ _ _ _ _ [_, _, _, _, _] _ _
  refine z_aload_n dX11_begin_0 rfl rfl ?_
  refine z_iconst (v := 0) dX11_begin_1 (by decide) ?_
  refine z_putI dX11_begin_2 fl_X11_111 rfl rfl (Or.inl rfl) rfl ?_
  refine z_aload_n dX11_begin_5 rfl rfl ?_
  refine z_cV1 dX11_begin_6 ml_X11_160 (sp_rsound (σ := z_up σ 92 0 0) h40 (show _ = nI n from hn) hw) rfl ⟨by decide, rfl⟩ rfl rfl (Nat.le_of_ble_eq_true rfl) ?_
  refine z_if_ne (tgt := 26) dX11_begin_9 (by decide) (fun _ => ?_) (fun c_ => absurd c_ (hs))
  refine z_aload_n dX11_begin_26 rfl rfl ?_
  refine z_getI dX11_begin_27 fl_X11_125 rfl rfl rfl ?_
  refine z_istore dX11_begin_30 (by decide) ?_
  show z_V _ _ _ _ _ _ _ _ _ [_, _, _, _, _] _ _
  refine z_aload_n dX11_begin_32 rfl rfl ?_
  refine z_cV0 dX11_begin_33 ml_X11_164 (sp_fresh) rfl ⟨by decide, rfl⟩ rfl rfl (Nat.le_of_ble_eq_true rfl) ?_
  refine z_aload_n dX11_begin_36 rfl rfl ?_
  refine z_getR dX11_begin_37 fl_X11_23 rfl rfl rfl ?_
  refine z_iconst (v := 0) dX11_begin_40 (by decide) ?_
  refine z_iload_n dX11_begin_41 rfl rfl ?_
  refine z_iast (j := 0) dX11_begin_42 rfl nI_0.symm (by decide) ?_
  refine z_aload_n dX11_begin_43 rfl rfl ?_
  refine z_getR dX11_begin_44 fl_X11_23 rfl rfl rfl ?_
  refine z_iconst (v := 1) dX11_begin_47 (by decide) ?_
  refine z_iload_n dX11_begin_48 rfl rfl ?_
  refine z_iast (j := 1) dX11_begin_49 rfl (show (1 : Int32) = nI 1 by decide) (by decide) ?_
  refine z_aload_n dX11_begin_50 rfl rfl ?_
  refine z_iconst (v := 0) dX11_begin_51 (by decide) ?_
  refine z_putI dX11_begin_52 fl_X11_19 rfl rfl (Or.inl rfl) rfl ?_
  refine z_aload_n dX11_begin_55 rfl rfl ?_
  refine z_iload_n dX11_begin_56 rfl rfl ?_
  refine z_putI dX11_begin_57 fl_X11_167 rfl rfl (Or.inr ⟨rfl, hw01⟩) rfl ?_
  refine z_aload_n dX11_begin_60 rfl rfl ?_
  refine z_iconst (v := 1) dX11_begin_61 (by decide) ?_
  refine z_putI dX11_begin_62 fl_X11_125 rfl rfl (Or.inr ⟨rfl, (by first | exact Or.inl rfl | exact Or.inr rfl)⟩) rfl ?_
  refine z_iload dX11_begin_65 rfl ?_
  exact z_zret dX11_begin_67 rfl hbb rfl rfl
set_option maxRecDepth 100000 in
set_option maxHeartbeats 4000000 in
theorem sp_rbegin_no {d : Nat} {σ : Nat → Nat → Int32} {τ : Nat → Nat → Int64} {n : Nat} (h40 : n ≤ 40) (hn : σ 92 1 = nI n) (hw : wfR σ n) {a b w : Int32} (hs : (rsnd (z_up σ 92 0 0) n).1 = 0) : z_MV M_X11_begin (d + 3) 0 0 [.ref 92, .int a, .int b, .int w] (124, z_r0, σ, τ) (some (.int 0)) (124, z_r0, z_up (rsnd (z_up σ 92 0 0) n).2 92 0 1, τ) := by
  refine z_MV.of pn_X11_begin (Nat.le_of_ble_eq_true rfl) (by simp [Value.category]) rfl ?_
  show z_V _ _ _ _ _ _ _ _ _ [_, _, _, _, _] _ _
  refine z_aload_n dX11_begin_0 rfl rfl ?_
  refine z_iconst (v := 0) dX11_begin_1 (by decide) ?_
  refine z_putI dX11_begin_2 fl_X11_111 rfl rfl (Or.inl rfl) rfl ?_
  refine z_aload_n dX11_begin_5 rfl rfl ?_
  refine z_cV1 dX11_begin_6 ml_X11_160 (sp_rsound (σ := z_up σ 92 0 0) h40 (show _ = nI n from hn) hw) rfl ⟨by decide, rfl⟩ rfl rfl (Nat.le_of_ble_eq_true rfl) ?_
  refine z_if_ne (tgt := 26) dX11_begin_9 (by decide) (fun c_ => absurd (hs) c_) (fun _ => ?_)
  refine z_aload_n dX11_begin_12 rfl rfl ?_
  refine z_iconst (v := 1) dX11_begin_13 (by decide) ?_
  refine z_cV1 dX11_begin_14 ml_X11_118 (sp_fail) rfl ⟨by decide, rfl⟩ rfl rfl (Nat.le_of_ble_eq_true rfl) ?_
  refine z_if_le (tgt := 24) dX11_begin_17 (by decide) (fun _ => ?_) (fun c_ => absurd (by decide) c_)
  refine z_iconst (v := 0) dX11_begin_24 (by decide) ?_
  exact z_zret dX11_begin_25 rfl (by first | exact Or.inl rfl | exact Or.inr rfl) rfl rfl
