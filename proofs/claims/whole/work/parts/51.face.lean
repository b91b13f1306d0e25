/-! PART 51: TraceTier: the face where nothing is thrown -/
set_option maxRecDepth 100000 in
set_option maxHeartbeats 4000000 in
theorem sp_local {d : Nat} {σ : Nat → Nat → Int32} {τ : Nat → Nat → Int64} {v : Nat} (hv : v < 6) : z_MV M_X10_local (d + 1) 0 0 [.ref 0, .int (nI v)] (124, z_r0, σ, τ) (some (.int (σ 7 v))) (124, z_r0, σ, τ) := by
  refine z_MV.of pn_X10_local (Nat.le_of_ble_eq_true rfl) (by simp [Value.category]) rfl ?_
  show z_V _ _ _ _ _ _ _ _ _ [_, _] _ _
  refine z_iload_n dX10_local_0 rfl rfl ?_
  refine z_if_lt (tgt := 10) dX10_local_1 (by decide) (fun c_ => absurd c_ (nI_pos (by omega))) (fun _ => ?_)
  refine z_iload_n dX10_local_4 rfl rfl ?_
  refine z_bipush (v := nI 6) dX10_local_5 (by decide) ?_
  refine z_icmp_lt (tgt := 20) dX10_local_7 (by decide) (fun _ => ?_) (fun c_ => absurd (nI_lt hv (by decide)) c_)
  refine z_aload_n dX10_local_20 rfl rfl ?_
  refine z_getR dX10_local_21 fl_X10_19 rfl rfl rfl ?_
  refine z_getR dX10_local_24 fl_X10_105 rfl rfl rfl ?_
  refine z_iload_n dX10_local_27 rfl rfl ?_
  refine z_iald dX10_local_28 rfl rfl (by omega) rfl ?_
  exact z_iret dX10_local_29 rfl rfl rfl
set_option maxRecDepth 100000 in
set_option maxHeartbeats 4000000 in
theorem sp_top {d : Nat} {σ : Nat → Nat → Int32} {τ : Nat → Nat → Int64} {v e : Nat} (he : σ 6 2 = nI (e + 1)) (he8 : e < 6) (hv : v ≤ e) : z_MV M_X10_top (d + 1) 0 0 [.ref 0, .int (nI v)] (124, z_r0, σ, τ) (some (.int (σ 8 (e - v)))) (124, z_r0, σ, τ) := by
  refine z_MV.of pn_X10_top (Nat.le_of_ble_eq_true rfl) (by simp [Value.category]) rfl ?_
  show z_V _ _ _ _ _ _ _ _ _ [_, _] _ _
  refine z_iload_n dX10_top_0 rfl rfl ?_
  refine z_if_lt (tgt := 15) dX10_top_1 (by decide) (fun c_ => absurd c_ (nI_pos (by omega))) (fun _ => ?_)
  refine z_iload_n dX10_top_4 rfl rfl ?_
  refine z_aload_n dX10_top_5 rfl rfl ?_
  refine z_getR dX10_top_6 fl_X10_19 rfl rfl rfl ?_
  refine z_getI dX10_top_9 fl_X10_127 rfl rfl he ?_
  refine z_icmp_lt (tgt := 25) dX10_top_12 (by decide) (fun _ => ?_) (fun c_ => absurd (nI_lt (by omega) (by omega)) c_)
  refine z_aload_n dX10_top_25 rfl rfl ?_
  refine z_getR dX10_top_26 fl_X10_19 rfl rfl rfl ?_
  refine z_getR dX10_top_29 fl_X10_132 rfl rfl rfl ?_
  refine z_aload_n dX10_top_32 rfl rfl ?_
  refine z_getR dX10_top_33 fl_X10_19 rfl rfl rfl ?_
  refine z_getI dX10_top_36 fl_X10_127 rfl rfl he ?_
  refine z_iconst (v := 1) dX10_top_39 (by decide) ?_
  refine z_isub dX10_top_40 (nI_pred e) ?_
  refine z_iload_n dX10_top_41 rfl rfl ?_
  refine z_isub dX10_top_42 (pk_sub (by omega)) ?_
  refine z_iald dX10_top_43 rfl rfl (by omega) rfl ?_
  exact z_iret dX10_top_44 rfl rfl rfl
set_option maxRecDepth 100000 in
set_option maxHeartbeats 4000000 in
theorem sp_outs {d : Nat} {σ : Nat → Nat → Int32} {τ : Nat → Nat → Int64} : z_MV M_X10_outs d 0 0 [.ref 0] (124, z_r0, σ, τ) (some (.int (σ 9 2))) (124, z_r0, σ, τ) := by
  refine z_MV.of pn_X10_outs (Nat.le_of_ble_eq_true rfl) (by simp [Value.category]) rfl ?_
  show z_V _ _ _ _ _ _ _ _ _ [_] _ _
  refine z_aload_n dX10_outs_0 rfl rfl ?_
  refine z_getR dX10_outs_1 fl_X10_26 rfl rfl rfl ?_
  refine z_getI dX10_outs_4 fl_X10_135 rfl rfl rfl ?_
  exact z_iret dX10_outs_7 rfl rfl rfl
set_option maxRecDepth 100000 in
set_option maxHeartbeats 4000000 in
theorem sp_out {d : Nat} {σ : Nat → Nat → Int32} {τ : Nat → Nat → Int64} {v e : Nat} (hv : v < 30) (h : ¬ σ 9 2 ≤ nI v) (he : σ 9 1 = nI e) (hl : e < 30) : z_MV M_X10_out (d + 2) 0 0 [.ref 0, .int (nI v)] (124, z_r0, σ, τ) (some (.int (σ 10 ((e + 30 - v) % 30)))) (124, z_r0, σ, τ) := by
  refine z_MV.of pn_X10_out (Nat.le_of_ble_eq_true rfl) (by simp [Value.category]) rfl ?_
  show z_V _ _ _ _ _ _ _ _ _ [_, _] _ _
  refine z_aload_n dX10_out_0 rfl rfl ?_
  refine z_getR dX10_out_1 fl_X10_26 rfl rfl rfl ?_
  refine z_iload_n dX10_out_4 rfl rfl ?_
  refine z_cV1 dX10_out_5 ml_X10_138 (sp_keeps) rfl ⟨by decide, rfl⟩ rfl rfl (Nat.le_of_ble_eq_true rfl) ?_
  refine z_if_ne (tgt := 21) dX10_out_8 (by decide) (fun _ => ?_) (fun c_ => absurd c_ (b2_n ⟨nI_pos (by omega), nI_ge hv (by decide), h⟩))
  refine z_aload_n dX10_out_21 rfl rfl ?_
  refine z_getR dX10_out_22 fl_X10_26 rfl rfl rfl ?_
  refine z_iload_n dX10_out_25 rfl rfl ?_
  refine z_cV1 dX10_out_26 ml_X10_144 (sp_back he hl hv) rfl ⟨by decide, rfl⟩ rfl rfl (Nat.le_of_ble_eq_true rfl) ?_
  exact z_iret dX10_out_29 rfl rfl rfl
set_option maxRecDepth 100000 in
set_option maxHeartbeats 4000000 in
theorem sp_count_0 {d : Nat} {σ : Nat → Nat → Int32} {τ : Nat → Nat → Int64} : z_MV M_X10_count (d + 1) 0 0 [.ref 0, .int (0)] (124, z_r0, σ, τ) (some (.int (if σ 0 9 = 0 ∨ ¬ σ 0 10 = 0 then -1 else σ 6 3))) (124, z_r0, σ, τ) := by
  refine z_MV.of pn_X10_count (Nat.le_of_ble_eq_true rfl) (by simp [Value.category]) rfl ?_
  show z_V _ _ _ _ _ _ _ _ _ [_, _] _ _
  refine z_iload_n dX10_count_0 rfl rfl ?_
  refine z_tableIn (off := 43) (tgt := 44) dX10_count_1 (by decide) (by decide) (by decide) (by decide) ?_
  refine z_aload_n dX10_count_44 rfl rfl ?_
  refine z_getI dX10_count_45 fl_X10_80 rfl rfl rfl ?_
  refine z_if_eq (tgt := 68) dX10_count_48 (by decide) (fun c48 => ?_) (fun c48 => ?_)
  · rw [if_pos (Or.inl c48)]
    refine z_iconst (v := (-1)) dX10_count_68 (by decide) ?_
    exact z_iret dX10_count_69 rfl rfl rfl
  · refine z_aload_n dX10_count_51 rfl rfl ?_
    refine z_getI dX10_count_52 fl_X10_116 rfl rfl rfl ?_
    refine z_if_ne (tgt := 68) dX10_count_55 (by decide) (fun c55 => ?_) (fun c55 => ?_)
    · rw [if_pos (Or.inr c55)]
      refine z_iconst (v := (-1)) dX10_count_68 (by decide) ?_
      exact z_iret dX10_count_69 rfl rfl rfl
    · rw [if_neg (fun z => z.elim c48 (fun y => y c55))]
      refine z_aload_n dX10_count_58 rfl rfl ?_
      refine z_getR dX10_count_59 fl_X10_19 rfl rfl rfl ?_
      refine z_getI dX10_count_62 fl_X10_148 rfl rfl rfl ?_
      refine z_goto (tgt := 69) dX10_count_65 (by decide) ?_
      exact z_iret dX10_count_69 rfl rfl rfl
set_option maxRecDepth 100000 in
set_option maxHeartbeats 4000000 in
theorem sp_count_1 {d : Nat} {σ : Nat → Nat → Int32} {τ : Nat → Nat → Int64} : z_MV M_X10_count (d + 1) 0 0 [.ref 0, .int (1)] (124, z_r0, σ, τ) (some (.int (σ 11 0))) (124, z_r0, σ, τ) := by
  refine z_MV.of pn_X10_count (Nat.le_of_ble_eq_true rfl) (by simp [Value.category]) rfl ?_
  show z_V _ _ _ _ _ _ _ _ _ [_, _] _ _
  refine z_iload_n dX10_count_0 rfl rfl ?_
  refine z_tableIn (off := 69) (tgt := 70) dX10_count_1 (by decide) (by decide) (by decide) (by decide) ?_
  refine z_aload_n dX10_count_70 rfl rfl ?_
  refine z_getR dX10_count_71 fl_X10_33 rfl rfl rfl ?_
  refine z_getI dX10_count_74 fl_X10_151 rfl rfl rfl ?_
  exact z_iret dX10_count_77 rfl rfl rfl
set_option maxRecDepth 100000 in
set_option maxHeartbeats 4000000 in
theorem sp_count_2 {d : Nat} {σ : Nat → Nat → Int32} {τ : Nat → Nat → Int64} : z_MV M_X10_count (d + 1) 0 0 [.ref 0, .int (nI 2)] (124, z_r0, σ, τ) (some (.int (σ 11 1))) (124, z_r0, σ, τ) := by
  refine z_MV.of pn_X10_count (Nat.le_of_ble_eq_true rfl) (by simp [Value.category]) rfl ?_
  show z_V _ _ _ _ _ _ _ _ _ [_, _] _ _
  refine z_iload_n dX10_count_0 rfl rfl ?_
  refine z_tableIn (off := 77) (tgt := 78) dX10_count_1 (by decide) (by decide) (by decide) (by decide) ?_
  refine z_aload_n dX10_count_78 rfl rfl ?_
  refine z_getR dX10_count_79 fl_X10_33 rfl rfl rfl ?_
  refine z_getI dX10_count_82 fl_X10_154 rfl rfl rfl ?_
  exact z_iret dX10_count_85 rfl rfl rfl
set_option maxRecDepth 100000 in
set_option maxHeartbeats 4000000 in
theorem sp_count_3 {d : Nat} {σ : Nat → Nat → Int32} {τ : Nat → Nat → Int64} : z_MV M_X10_count (d + 1) 0 0 [.ref 0, .int (nI 3)] (124, z_r0, σ, τ) (some (.int (σ 11 2))) (124, z_r0, σ, τ) := by
  refine z_MV.of pn_X10_count (Nat.le_of_ble_eq_true rfl) (by simp [Value.category]) rfl ?_
  show z_V _ _ _ _ _ _ _ _ _ [_, _] _ _
  refine z_iload_n dX10_count_0 rfl rfl ?_
  refine z_tableIn (off := 85) (tgt := 86) dX10_count_1 (by decide) (by decide) (by decide) (by decide) ?_
  refine z_aload_n dX10_count_86 rfl rfl ?_
  refine z_getR dX10_count_87 fl_X10_33 rfl rfl rfl ?_
  refine z_getI dX10_count_90 fl_X10_157 rfl rfl rfl ?_
  exact z_iret dX10_count_93 rfl rfl rfl
set_option maxRecDepth 100000 in
set_option maxHeartbeats 4000000 in
theorem sp_count_4 {d : Nat} {σ : Nat → Nat → Int32} {τ : Nat → Nat → Int64} : z_MV M_X10_count (d + 1) 0 0 [.ref 0, .int (nI 4)] (124, z_r0, σ, τ) (some (.int (σ 11 3))) (124, z_r0, σ, τ) := by
  refine z_MV.of pn_X10_count (Nat.le_of_ble_eq_true rfl) (by simp [Value.category]) rfl ?_
  show z_V _ _ _ _ _ _ _ _ _ [_, _] _ _
  refine z_iload_n dX10_count_0 rfl rfl ?_
  refine z_tableIn (off := 93) (tgt := 94) dX10_count_1 (by decide) (by decide) (by decide) (by decide) ?_
  refine z_aload_n dX10_count_94 rfl rfl ?_
  refine z_getR dX10_count_95 fl_X10_33 rfl rfl rfl ?_
  refine z_getI dX10_count_98 fl_X10_160 rfl rfl rfl ?_
  exact z_iret dX10_count_101 rfl rfl rfl
set_option maxRecDepth 100000 in
set_option maxHeartbeats 4000000 in
theorem sp_count_5 {d : Nat} {σ : Nat → Nat → Int32} {τ : Nat → Nat → Int64} : z_MV M_X10_count (d + 1) 0 0 [.ref 0, .int (nI 5)] (124, z_r0, σ, τ) (some (.int (σ 0 8))) (124, z_r0, σ, τ) := by
  refine z_MV.of pn_X10_count (Nat.le_of_ble_eq_true rfl) (by simp [Value.category]) rfl ?_
  show z_V _ _ _ _ _ _ _ _ _ [_, _] _ _
  refine z_iload_n dX10_count_0 rfl rfl ?_
  refine z_tableIn (off := 101) (tgt := 102) dX10_count_1 (by decide) (by decide) (by decide) (by decide) ?_
  refine z_aload_n dX10_count_102 rfl rfl ?_
  refine z_getI dX10_count_103 fl_X10_163 rfl rfl rfl ?_
  exact z_iret dX10_count_106 rfl rfl rfl
set_option maxRecDepth 100000 in
set_option maxHeartbeats 4000000 in
theorem sp_count_6 {d : Nat} {σ : Nat → Nat → Int32} {τ : Nat → Nat → Int64} : z_MV M_X10_count (d + 1) 0 0 [.ref 0, .int (nI 6)] (124, z_r0, σ, τ) (some (.int (b2i (σ 16 2 ≠ -1)))) (124, z_r0, σ, τ) := by
  refine z_MV.of pn_X10_count (Nat.le_of_ble_eq_true rfl) (by simp [Value.category]) rfl ?_
  show z_V _ _ _ _ _ _ _ _ _ [_, _] _ _
  refine z_iload_n dX10_count_0 rfl rfl ?_
  refine z_tableIn (off := 106) (tgt := 107) dX10_count_1 (by decide) (by decide) (by decide) (by decide) ?_
  refine z_aload_n dX10_count_107 rfl rfl ?_
  refine z_getR dX10_count_108 fl_X10_47 rfl rfl rfl ?_
  refine z_cV1 dX10_count_111 ml_X10_166 (sp_isOn) rfl ⟨by decide, rfl⟩ rfl rfl (Nat.le_of_ble_eq_true rfl) ?_
  refine z_if_eq (tgt := 121) dX10_count_114 (by decide) (fun c114 => ?_) (fun c114 => ?_)
  · rw [c114]
    refine z_iconst (v := 0) dX10_count_121 (by decide) ?_
    exact z_iret dX10_count_122 rfl rfl rfl
  · rw [show b2i (σ 16 2 ≠ -1) = 1 from (b2i_01 _).resolve_left c114]
    refine z_iconst (v := 1) dX10_count_117 (by decide) ?_
    refine z_goto (tgt := 122) dX10_count_118 (by decide) ?_
    exact z_iret dX10_count_122 rfl rfl rfl
set_option maxRecDepth 100000 in
set_option maxHeartbeats 4000000 in
theorem sp_place_0 {d : Nat} {σ : Nat → Nat → Int32} {τ : Nat → Nat → Int64} {v n : Nat} (hn : σ 1 2 = nI n) (hn40 : n ≤ 40) (hv : v < n) : z_MV M_X10_place (d + 1) 0 0 [.ref 0, .int (nI v), .int 0] (124, z_r0, σ, τ) (some (.int (σ 13 v))) (124, z_r0, σ, τ) := by
  refine z_MV.of pn_X10_place (Nat.le_of_ble_eq_true rfl) (by simp [Value.category]) rfl ?_
  show z_V _ _ _ _ _ _ _ _ _ [_, _, _] _ _
  refine z_iload_n dX10_place_0 rfl rfl ?_
  refine z_if_lt (tgt := 24) dX10_place_1 (by decide) (fun c_ => absurd c_ (nI_pos (by omega))) (fun _ => ?_)
  refine z_iload_n dX10_place_4 rfl rfl ?_
  refine z_aload_n dX10_place_5 rfl rfl ?_
  refine z_getR dX10_place_6 fl_X10_12 rfl rfl rfl ?_
  refine z_getI dX10_place_9 fl_X10_84 rfl rfl hn ?_
  refine z_icmp_ge (tgt := 24) dX10_place_12 (by decide) (fun c_ => absurd c_ (nI_ge hv (by omega))) (fun _ => ?_)
  refine z_iload_n dX10_place_15 rfl rfl ?_
  refine z_if_lt (tgt := 24) dX10_place_16 (by decide) (fun c_ => absurd c_ (by decide)) (fun _ => ?_)
  refine z_iload_n dX10_place_19 rfl rfl ?_
  refine z_iconst (v := 1) dX10_place_20 (by decide) ?_
  refine z_icmp_le (tgt := 34) dX10_place_21 (by decide) (fun _ => ?_) (fun c_ => absurd (by decide) c_)
  refine z_iload_n dX10_place_34 rfl rfl ?_
  refine z_if_ne (tgt := 50) dX10_place_35 (by decide) (fun c_ => absurd (by decide +kernel) c_) (fun _ => ?_)
  refine z_aload_n dX10_place_38 rfl rfl ?_
  refine z_getR dX10_place_39 fl_X10_40 rfl rfl rfl ?_
  refine z_getR dX10_place_42 fl_X10_173 rfl rfl rfl ?_
  refine z_iload_n dX10_place_45 rfl rfl ?_
  refine z_iald dX10_place_46 rfl rfl (by omega) rfl ?_
  refine z_goto (tgt := 59) dX10_place_47 (by decide) ?_
  exact z_iret dX10_place_59 rfl rfl rfl
set_option maxRecDepth 100000 in
set_option maxHeartbeats 4000000 in
theorem sp_place_1 {d : Nat} {σ : Nat → Nat → Int32} {τ : Nat → Nat → Int64} {v n : Nat} (hn : σ 1 2 = nI n) (hn40 : n ≤ 40) (hv : v < n) : z_MV M_X10_place (d + 1) 0 0 [.ref 0, .int (nI v), .int 1] (124, z_r0, σ, τ) (some (.int (σ 14 v))) (124, z_r0, σ, τ) := by
  refine z_MV.of pn_X10_place (Nat.le_of_ble_eq_true rfl) (by simp [Value.category]) rfl ?_
  show z_V _ _ _ _ _ _ _ _ _ [_, _, _] _ _
  refine z_iload_n dX10_place_0 rfl rfl ?_
  refine z_if_lt (tgt := 24) dX10_place_1 (by decide) (fun c_ => absurd c_ (nI_pos (by omega))) (fun _ => ?_)
  refine z_iload_n dX10_place_4 rfl rfl ?_
  refine z_aload_n dX10_place_5 rfl rfl ?_
  refine z_getR dX10_place_6 fl_X10_12 rfl rfl rfl ?_
  refine z_getI dX10_place_9 fl_X10_84 rfl rfl hn ?_
  refine z_icmp_ge (tgt := 24) dX10_place_12 (by decide) (fun c_ => absurd c_ (nI_ge hv (by omega))) (fun _ => ?_)
  refine z_iload_n dX10_place_15 rfl rfl ?_
  refine z_if_lt (tgt := 24) dX10_place_16 (by decide) (fun c_ => absurd c_ (by decide)) (fun _ => ?_)
  refine z_iload_n dX10_place_19 rfl rfl ?_
  refine z_iconst (v := 1) dX10_place_20 (by decide) ?_
  refine z_icmp_le (tgt := 34) dX10_place_21 (by decide) (fun _ => ?_) (fun c_ => absurd (by decide) c_)
  refine z_iload_n dX10_place_34 rfl rfl ?_
  refine z_if_ne (tgt := 50) dX10_place_35 (by decide) (fun _ => ?_) (fun c_ => absurd c_ (by decide +kernel))
  refine z_aload_n dX10_place_50 rfl rfl ?_
  refine z_getR dX10_place_51 fl_X10_40 rfl rfl rfl ?_
  refine z_getR dX10_place_54 fl_X10_176 rfl rfl rfl ?_
  refine z_iload_n dX10_place_57 rfl rfl ?_
  refine z_iald dX10_place_58 rfl rfl (by omega) rfl ?_
  exact z_iret dX10_place_59 rfl rfl rfl
set_option maxRecDepth 100000 in
set_option maxHeartbeats 4000000 in
theorem sp_trace_0 {d : Nat} {σ : Nat → Nat → Int32} {τ : Nat → Nat → Int64} {v n : Nat} (hn : σ 0 8 = nI n) (hn4 : n ≤ 4) (hv : v < n) (ht : v < 4) : z_MV M_X10_trace (d + 2) 0 0 [.ref 0, .int (nI v), .int (0)] (124, z_r0, σ, τ) (some (.int (σ (tr v) 3))) (124, z_r0, σ, τ) := by
  refine z_MV.of pn_X10_trace (Nat.le_of_ble_eq_true rfl) (by simp [Value.category]) rfl ?_
  show z_V _ _ _ _ _ _ _ _ _ [_, _, _, _] _ _
  have hk := tr_k (t := v) ht
  have hr := tr_r (t := v) ht
  refine z_iload_n dX10_trace_0 rfl rfl ?_
  refine z_if_lt (tgt := 12) dX10_trace_1 (by decide) (fun c_ => absurd c_ (nI_pos (by omega))) (fun _ => ?_)
  refine z_iload_n dX10_trace_4 rfl rfl ?_
  refine z_aload_n dX10_trace_5 rfl rfl ?_
  refine z_getI dX10_trace_6 fl_X10_163 rfl rfl hn ?_
  refine z_icmp_lt (tgt := 22) dX10_trace_9 (by decide) (fun _ => ?_) (fun c_ => absurd (nI_lt hv (by omega)) c_)
  refine z_aload_n dX10_trace_22 rfl rfl ?_
  refine z_getR dX10_trace_23 fl_X10_60 rfl rfl rfl ?_
  refine z_iload_n dX10_trace_26 rfl rfl ?_
  refine z_aald dX10_trace_27 rfl rfl (by omega) hr.1 ?_
  refine z_astore_n dX10_trace_28 rfl (by decide) ?_
  show z_V _ _ _ _ _ _ _ _ _ [_, _, _, _] _ _
  refine z_iload_n dX10_trace_29 rfl rfl ?_
  refine z_tableIn (off := 38) (tgt := 68) dX10_trace_30 (by decide) (by decide) (by decide) (by decide) ?_
  refine z_aload_n dX10_trace_68 rfl rfl ?_
  refine z_getI dX10_trace_69 fl_X10_181 rfl hk.1 rfl ?_
  exact z_iret dX10_trace_72 rfl rfl rfl
set_option maxRecDepth 100000 in
set_option maxHeartbeats 4000000 in
theorem sp_trace_1 {d : Nat} {σ : Nat → Nat → Int32} {τ : Nat → Nat → Int64} {v n : Nat} (hn : σ 0 8 = nI n) (hn4 : n ≤ 4) (hv : v < n) (ht : v < 4) : z_MV M_X10_trace (d + 2) 0 0 [.ref 0, .int (nI v), .int (1)] (124, z_r0, σ, τ) (some (.int (σ (tr v) 4))) (124, z_r0, σ, τ) := by
  refine z_MV.of pn_X10_trace (Nat.le_of_ble_eq_true rfl) (by simp [Value.category]) rfl ?_
  show z_V _ _ _ _ _ _ _ _ _ [_, _, _, _] _ _
  have hk := tr_k (t := v) ht
  have hr := tr_r (t := v) ht
  refine z_iload_n dX10_trace_0 rfl rfl ?_
  refine z_if_lt (tgt := 12) dX10_trace_1 (by decide) (fun c_ => absurd c_ (nI_pos (by omega))) (fun _ => ?_)
  refine z_iload_n dX10_trace_4 rfl rfl ?_
  refine z_aload_n dX10_trace_5 rfl rfl ?_
  refine z_getI dX10_trace_6 fl_X10_163 rfl rfl hn ?_
  refine z_icmp_lt (tgt := 22) dX10_trace_9 (by decide) (fun _ => ?_) (fun c_ => absurd (nI_lt hv (by omega)) c_)
  refine z_aload_n dX10_trace_22 rfl rfl ?_
  refine z_getR dX10_trace_23 fl_X10_60 rfl rfl rfl ?_
  refine z_iload_n dX10_trace_26 rfl rfl ?_
  refine z_aald dX10_trace_27 rfl rfl (by omega) hr.1 ?_
  refine z_astore_n dX10_trace_28 rfl (by decide) ?_
  show z_V _ _ _ _ _ _ _ _ _ [_, _, _, _] _ _
  refine z_iload_n dX10_trace_29 rfl rfl ?_
  refine z_tableIn (off := 43) (tgt := 73) dX10_trace_30 (by decide) (by decide) (by decide) (by decide) ?_
  refine z_aload_n dX10_trace_73 rfl rfl ?_
  refine z_getI dX10_trace_74 fl_X10_184 rfl hk.1 rfl ?_
  exact z_iret dX10_trace_77 rfl rfl rfl
set_option maxRecDepth 100000 in
set_option maxHeartbeats 4000000 in
theorem sp_trace_2 {d : Nat} {σ : Nat → Nat → Int32} {τ : Nat → Nat → Int64} {v n : Nat} (hn : σ 0 8 = nI n) (hn4 : n ≤ 4) (hv : v < n) (ht : v < 4) : z_MV M_X10_trace (d + 2) 0 0 [.ref 0, .int (nI v), .int (nI 2)] (124, z_r0, σ, τ) (some (.int (σ (tr v) 9 - σ (tr v + 6) 5 - σ (tr v) 5))) (124, z_r0, σ, τ) := by
  refine z_MV.of pn_X10_trace (Nat.le_of_ble_eq_true rfl) (by simp [Value.category]) rfl ?_
  show z_V _ _ _ _ _ _ _ _ _ [_, _, _, _] _ _
  have hk := tr_k (t := v) ht
  have hr := tr_r (t := v) ht
  refine z_iload_n dX10_trace_0 rfl rfl ?_
  refine z_if_lt (tgt := 12) dX10_trace_1 (by decide) (fun c_ => absurd c_ (nI_pos (by omega))) (fun _ => ?_)
  refine z_iload_n dX10_trace_4 rfl rfl ?_
  refine z_aload_n dX10_trace_5 rfl rfl ?_
  refine z_getI dX10_trace_6 fl_X10_163 rfl rfl hn ?_
  refine z_icmp_lt (tgt := 22) dX10_trace_9 (by decide) (fun _ => ?_) (fun c_ => absurd (nI_lt hv (by omega)) c_)
  refine z_aload_n dX10_trace_22 rfl rfl ?_
  refine z_getR dX10_trace_23 fl_X10_60 rfl rfl rfl ?_
  refine z_iload_n dX10_trace_26 rfl rfl ?_
  refine z_aald dX10_trace_27 rfl rfl (by omega) hr.1 ?_
  refine z_astore_n dX10_trace_28 rfl (by decide) ?_
  show z_V _ _ _ _ _ _ _ _ _ [_, _, _, _] _ _
  refine z_iload_n dX10_trace_29 rfl rfl ?_
  refine z_tableIn (off := 48) (tgt := 78) dX10_trace_30 (by decide) (by decide) (by decide) (by decide) ?_
  refine z_aload_n dX10_trace_78 rfl rfl ?_
  refine z_cV1 dX10_trace_79 ml_X10_187 (sp_bodyOperations ht) hk.1 ⟨by decide, rfl⟩ rfl rfl (Nat.le_of_ble_eq_true rfl) ?_
  exact z_iret dX10_trace_82 rfl rfl rfl
set_option maxRecDepth 100000 in
set_option maxHeartbeats 4000000 in
theorem sp_trace_3 {d : Nat} {σ : Nat → Nat → Int32} {τ : Nat → Nat → Int64} {v n : Nat} (hn : σ 0 8 = nI n) (hn4 : n ≤ 4) (hv : v < n) (ht : v < 4) : z_MV M_X10_trace (d + 2) 0 0 [.ref 0, .int (nI v), .int (nI 3)] (124, z_r0, σ, τ) (some (.int (σ (tr v + 6) 5))) (124, z_r0, σ, τ) := by
  refine z_MV.of pn_X10_trace (Nat.le_of_ble_eq_true rfl) (by simp [Value.category]) rfl ?_
  show z_V _ _ _ _ _ _ _ _ _ [_, _, _, _] _ _
  have hk := tr_k (t := v) ht
  have hr := tr_r (t := v) ht
  refine z_iload_n dX10_trace_0 rfl rfl ?_
  refine z_if_lt (tgt := 12) dX10_trace_1 (by decide) (fun c_ => absurd c_ (nI_pos (by omega))) (fun _ => ?_)
  refine z_iload_n dX10_trace_4 rfl rfl ?_
  refine z_aload_n dX10_trace_5 rfl rfl ?_
  refine z_getI dX10_trace_6 fl_X10_163 rfl rfl hn ?_
  refine z_icmp_lt (tgt := 22) dX10_trace_9 (by decide) (fun _ => ?_) (fun c_ => absurd (nI_lt hv (by omega)) c_)
  refine z_aload_n dX10_trace_22 rfl rfl ?_
  refine z_getR dX10_trace_23 fl_X10_60 rfl rfl rfl ?_
  refine z_iload_n dX10_trace_26 rfl rfl ?_
  refine z_aald dX10_trace_27 rfl rfl (by omega) hr.1 ?_
  refine z_astore_n dX10_trace_28 rfl (by decide) ?_
  show z_V _ _ _ _ _ _ _ _ _ [_, _, _, _] _ _
  refine z_iload_n dX10_trace_29 rfl rfl ?_
  refine z_tableIn (off := 53) (tgt := 83) dX10_trace_30 (by decide) (by decide) (by decide) (by decide) ?_
  refine z_aload_n dX10_trace_83 rfl rfl ?_
  refine z_getR dX10_trace_84 fl_X10_191 rfl hk.1 hr.2.2.1 ?_
  refine z_getI dX10_trace_87 fl_X10_195 rfl hk.2.2.2.2.2.2.1 rfl ?_
  exact z_iret dX10_trace_90 rfl rfl rfl
set_option maxRecDepth 100000 in
set_option maxHeartbeats 4000000 in
theorem sp_trace_4 {d : Nat} {σ : Nat → Nat → Int32} {τ : Nat → Nat → Int64} {v n : Nat} (hn : σ 0 8 = nI n) (hn4 : n ≤ 4) (hv : v < n) (ht : v < 4) : z_MV M_X10_trace (d + 2) 0 0 [.ref 0, .int (nI v), .int (nI 4)] (124, z_r0, σ, τ) (some (.int (σ (tr v) 5))) (124, z_r0, σ, τ) := by
  refine z_MV.of pn_X10_trace (Nat.le_of_ble_eq_true rfl) (by simp [Value.category]) rfl ?_
  show z_V _ _ _ _ _ _ _ _ _ [_, _, _, _] _ _
  have hk := tr_k (t := v) ht
  have hr := tr_r (t := v) ht
  refine z_iload_n dX10_trace_0 rfl rfl ?_
  refine z_if_lt (tgt := 12) dX10_trace_1 (by decide) (fun c_ => absurd c_ (nI_pos (by omega))) (fun _ => ?_)
  refine z_iload_n dX10_trace_4 rfl rfl ?_
  refine z_aload_n dX10_trace_5 rfl rfl ?_
  refine z_getI dX10_trace_6 fl_X10_163 rfl rfl hn ?_
  refine z_icmp_lt (tgt := 22) dX10_trace_9 (by decide) (fun _ => ?_) (fun c_ => absurd (nI_lt hv (by omega)) c_)
  refine z_aload_n dX10_trace_22 rfl rfl ?_
  refine z_getR dX10_trace_23 fl_X10_60 rfl rfl rfl ?_
  refine z_iload_n dX10_trace_26 rfl rfl ?_
  refine z_aald dX10_trace_27 rfl rfl (by omega) hr.1 ?_
  refine z_astore_n dX10_trace_28 rfl (by decide) ?_
  show z_V _ _ _ _ _ _ _ _ _ [_, _, _, _] _ _
  refine z_iload_n dX10_trace_29 rfl rfl ?_
  refine z_tableIn (off := 61) (tgt := 91) dX10_trace_30 (by decide) (by decide) (by decide) (by decide) ?_
  refine z_aload_n dX10_trace_91 rfl rfl ?_
  refine z_getI dX10_trace_92 fl_X10_198 rfl hk.1 rfl ?_
  exact z_iret dX10_trace_95 rfl rfl rfl
set_option maxRecDepth 100000 in
set_option maxHeartbeats 4000000 in
theorem sp_trace_5 {d : Nat} {σ : Nat → Nat → Int32} {τ : Nat → Nat → Int64} {v n : Nat} (hn : σ 0 8 = nI n) (hn4 : n ≤ 4) (hv : v < n) (ht : v < 4) : z_MV M_X10_trace (d + 2) 0 0 [.ref 0, .int (nI v), .int (nI 5)] (124, z_r0, σ, τ) (some (.int (cstF σ (tr v) 6))) (124, z_r0, σ, τ) := by
  refine z_MV.of pn_X10_trace (Nat.le_of_ble_eq_true rfl) (by simp [Value.category]) rfl ?_
  show z_V _ _ _ _ _ _ _ _ _ [_, _, _, _] _ _
  have hk := tr_k (t := v) ht
  have hr := tr_r (t := v) ht
  refine z_iload_n dX10_trace_0 rfl rfl ?_
  refine z_if_lt (tgt := 12) dX10_trace_1 (by decide) (fun c_ => absurd c_ (nI_pos (by omega))) (fun _ => ?_)
  refine z_iload_n dX10_trace_4 rfl rfl ?_
  refine z_aload_n dX10_trace_5 rfl rfl ?_
  refine z_getI dX10_trace_6 fl_X10_163 rfl rfl hn ?_
  refine z_icmp_lt (tgt := 22) dX10_trace_9 (by decide) (fun _ => ?_) (fun c_ => absurd (nI_lt hv (by omega)) c_)
  refine z_aload_n dX10_trace_22 rfl rfl ?_
  refine z_getR dX10_trace_23 fl_X10_60 rfl rfl rfl ?_
  refine z_iload_n dX10_trace_26 rfl rfl ?_
  refine z_aald dX10_trace_27 rfl rfl (by omega) hr.1 ?_
  refine z_astore_n dX10_trace_28 rfl (by decide) ?_
  show z_V _ _ _ _ _ _ _ _ _ [_, _, _, _] _ _
  refine z_iload_n dX10_trace_29 rfl rfl ?_
  refine z_tableIn (off := 66) (tgt := 96) dX10_trace_30 (by decide) (by decide) (by decide) (by decide) ?_
  refine z_aload_n dX10_trace_96 rfl rfl ?_
  refine z_cV1 dX10_trace_97 ml_X10_201 (sp_countStaying ht) hk.1 ⟨by decide, rfl⟩ rfl rfl (Nat.le_of_ble_eq_true rfl) ?_
  exact z_iret dX10_trace_100 rfl rfl rfl
def ccl (σ : Nat → Nat → Int32) : Nat → Nat → Int32 := z_up (fgP (z_up σ 1 2 0)) 0 9 0
set_option maxRecDepth 100000 in
set_option maxHeartbeats 4000000 in
theorem sp_clear {d : Nat} {σ : Nat → Nat → Int32} {τ : Nat → Nat → Int64} : z_MV M_X10_clear (d + 3) 0 0 [.ref 0] (124, z_r0, σ, τ) (some (.int (σ 1 2))) (124, z_r0, ccl σ, τ) := by
  refine z_MV.of pn_X10_clear (Nat.le_of_ble_eq_true rfl) (by simp [Value.category]) rfl ?_
  show z_V _ _ _ _ _ _ _ _ _ [_, _] _ _
  refine z_aload_n dX10_clear_0 rfl rfl ?_
  refine z_getR dX10_clear_1 fl_X10_12 rfl rfl rfl ?_
  refine z_getI dX10_clear_4 fl_X10_84 rfl rfl rfl ?_
  refine z_istore_n dX10_clear_7 rfl (by decide) ?_
  show z_V _ _ _ _ _ _ _ _ _ [_, _] _ _
  refine z_aload_n dX10_clear_8 rfl rfl ?_
  refine z_getR dX10_clear_9 fl_X10_12 rfl rfl rfl ?_
  refine z_iconst (v := 0) dX10_clear_12 (by decide) ?_
  refine z_putI dX10_clear_13 fl_X10_84 rfl rfl (Or.inl rfl) rfl ?_
  refine z_aload_n dX10_clear_16 rfl rfl ?_
  refine z_cV0 dX10_clear_17 ml_X10_102 (sp_forgetProgram) rfl ⟨by decide, rfl⟩ rfl rfl (Nat.le_of_ble_eq_true rfl) ?_
  refine z_aload_n dX10_clear_20 rfl rfl ?_
  refine z_iconst (v := 0) dX10_clear_21 (by decide) ?_
  refine z_putI dX10_clear_22 fl_X10_80 rfl rfl (Or.inr ⟨rfl, (by first | exact Or.inl rfl | exact Or.inr rfl)⟩) rfl ?_
  refine z_iload_n dX10_clear_25 rfl rfl ?_
  exact z_iret dX10_clear_26 rfl rfl rfl
def cbg (σ : Nat → Nat → Int32) (a b w : Int32) : Nat → Nat → Int32 := z_up (z_up (z_up (z_up (fgP σ) 7 0 a) 7 1 b) 0 11 w) 0 9 1
set_option maxRecDepth 100000 in
set_option maxHeartbeats 4000000 in
theorem sp_begin {d : Nat} {σ : Nat → Nat → Int32} {τ : Nat → Nat → Int64} {n : Nat} (h40 : n ≤ 40) (hn : σ 1 2 = nI n) (hw : wfC σ n) {a b w : Int32} (hw01 : w = 0 ∨ w = 1) (hs : ¬ (snd σ).1 = 0) (hbb : (snd σ).2 0 9 = 0 ∨ (snd σ).2 0 9 = 1) : z_MV M_X10_begin (d + 3) 0 0 [.ref 0, .int a, .int b, .int w] (124, z_r0, σ, τ) (some (.int ((snd σ).2 0 9))) (124, z_r0, cbg (snd σ).2 a b w, τ) := by
  refine z_MV.of pn_X10_begin (Nat.le_of_ble_eq_true rfl) (by simp [Value.category]) rfl ?_
  show z_V _ _ _ _ _ _ _ _ _ [_, _, _, _, _] _ _
  refine z_aload_n dX10_begin_0 rfl rfl ?_
  refine z_getR dX10_begin_1 fl_X10_12 rfl rfl rfl ?_
  refine z_cV1 dX10_begin_4 ml_X10_96 (sp_isSound h40 hn hw) rfl ⟨by decide, rfl⟩ rfl rfl (Nat.le_of_ble_eq_true rfl) ?_
  refine z_if_ne (tgt := 20) dX10_begin_7 (by decide) (fun _ => ?_) (fun c_ => absurd c_ (hs))
  refine z_aload_n dX10_begin_20 rfl rfl ?_
  refine z_getI dX10_begin_21 fl_X10_80 rfl rfl rfl ?_
  refine z_istore dX10_begin_24 (by decide) ?_
  show z_V _ _ _ _ _ _ _ _ _ [_, _, _, _, _] _ _
  refine z_aload_n dX10_begin_26 rfl rfl ?_
  refine z_cV0 dX10_begin_27 ml_X10_102 (sp_forgetProgram) rfl ⟨by decide, rfl⟩ rfl rfl (Nat.le_of_ble_eq_true rfl) ?_
  refine z_aload_n dX10_begin_30 rfl rfl ?_
  refine z_getR dX10_begin_31 fl_X10_19 rfl rfl rfl ?_
  refine z_getR dX10_begin_34 fl_X10_105 rfl rfl rfl ?_
  refine z_iconst (v := 0) dX10_begin_37 (by decide) ?_
  refine z_iload_n dX10_begin_38 rfl rfl ?_
  refine z_iast (j := 0) dX10_begin_39 rfl nI_0.symm (by decide) ?_
  refine z_aload_n dX10_begin_40 rfl rfl ?_
  refine z_getR dX10_begin_41 fl_X10_19 rfl rfl rfl ?_
  refine z_getR dX10_begin_44 fl_X10_105 rfl rfl rfl ?_
  refine z_iconst (v := 1) dX10_begin_47 (by decide) ?_
  refine z_iload_n dX10_begin_48 rfl rfl ?_
  refine z_iast (j := 1) dX10_begin_49 rfl (show (1 : Int32) = nI 1 by decide) (by decide) ?_
  refine z_aload_n dX10_begin_50 rfl rfl ?_
  refine z_iload_n dX10_begin_51 rfl rfl ?_
  refine z_putI dX10_begin_52 fl_X10_109 rfl rfl (Or.inr ⟨rfl, hw01⟩) rfl ?_
  refine z_aload_n dX10_begin_55 rfl rfl ?_
  refine z_iconst (v := 1) dX10_begin_56 (by decide) ?_
  refine z_putI dX10_begin_57 fl_X10_80 rfl rfl (Or.inr ⟨rfl, (by first | exact Or.inl rfl | exact Or.inr rfl)⟩) rfl ?_
  refine z_iload dX10_begin_60 rfl ?_
  exact z_zret dX10_begin_62 rfl hbb rfl rfl
set_option maxRecDepth 100000 in
set_option maxHeartbeats 4000000 in
theorem sp_add {d : Nat} {σ : Nat → Nat → Int32} {τ : Nat → Nat → Int64} {n : Nat} {o x : Int32} (hi : ¬ insB o x = 0) (hb : σ 0 9 = 0) (hn : σ 1 2 = nI n) (hn40 : n < 40) : z_MV M_X10_add (d + 1) 0 0 [.ref 0, .int o, .int x] (124, z_r0, σ, τ) (some (.int (nI (n + 1)))) (124, z_r0, z_up (z_up (z_up σ 2 n o) 3 n x) 1 2 (nI (n + 1)), τ) := by
  refine z_MV.of pn_X10_add (Nat.le_of_ble_eq_true rfl) (by simp [Value.category]) rfl ?_
  show z_V _ _ _ _ _ _ _ _ _ [_, _, _] _ _
  refine z_iload_n dX10_add_0 rfl rfl ?_
  refine z_iload_n dX10_add_1 rfl rfl ?_
  refine z_cS1 dX10_add_2 ml_X10_69 (sp_isInstruction) rfl rfl (Nat.le_of_ble_eq_true rfl) ?_
  refine z_if_ne (tgt := 18) dX10_add_5 (by decide) (fun _ => ?_) (fun c_ => absurd c_ (hi))
  refine z_aload_n dX10_add_18 rfl rfl ?_
  refine z_getI dX10_add_19 fl_X10_80 rfl rfl rfl ?_
  refine z_if_ne (tgt := 37) dX10_add_22 (by decide) (fun c_ => absurd (hb) c_) (fun _ => ?_)
  refine z_aload_n dX10_add_25 rfl rfl ?_
  refine z_getR dX10_add_26 fl_X10_12 rfl rfl rfl ?_
  refine z_getI dX10_add_29 fl_X10_84 rfl rfl hn ?_
  refine z_bipush (v := nI 40) dX10_add_32 (by decide) ?_
  refine z_icmp_lt (tgt := 47) dX10_add_34 (by decide) (fun _ => ?_) (fun c_ => absurd (nI_lt hn40 (by decide)) c_)
  refine z_aload_n dX10_add_47 rfl rfl ?_
  refine z_getR dX10_add_48 fl_X10_12 rfl rfl rfl ?_
  refine z_iload_n dX10_add_51 rfl rfl ?_
  refine z_iload_n dX10_add_52 rfl rfl ?_
  refine z_cV0 dX10_add_53 ml_X10_92 (sp_append hn hn40) rfl ⟨by decide, rfl⟩ rfl rfl (Nat.le_of_ble_eq_true rfl) ?_
  refine z_aload_n dX10_add_56 rfl rfl ?_
  refine z_getR dX10_add_57 fl_X10_12 rfl rfl rfl ?_
  refine z_getI dX10_add_60 fl_X10_84 rfl rfl (show _ = nI (n + 1) by simp [z_up]) ?_
  exact z_iret dX10_add_63 rfl rfl rfl
set_option maxRecDepth 100000 in
set_option maxHeartbeats 4000000 in
theorem cr_loop {d : Nat} {τ : Nat → Nat → Int64} {F : Nat → Nat → Nat → Int32} {n s : Nat} (h500 : n ≤ 500) (hs : s ≤ n) (hst : ∀ j, j < s → F j 0 10 = 0 ∧ z_MV M_X10_step (d + 5) 0 0 [.ref 0] (124, z_r0, F j, τ) none (124, z_r0, F (j + 1), τ)) (hend : s = n ∨ ¬ F s 0 10 = 0) : ∀ (m v : Nat), v ≤ s → s - v < m → z_V M_X10_run (d + 6) 0 0 0 0 (some (.int (nI s))) (124, z_r0, F s, τ) 41 [some (.ref 0), some (.int (nI n)), some (.int (nI v))] [] (124, z_r0, F v, τ) := by
  intro m
  induction m with
  | zero => intro v _ h; omega
  | succ m ih =>
    intro v hv1 hv2
    refine z_iload_n dX10_run_41 rfl rfl ?_
    refine z_iload_n dX10_run_42 rfl rfl ?_
    refine z_icmp_ge (tgt := 63) dX10_run_43 (by decide) (fun c43 => ?_) (fun c43 => ?_)
    · have e0 : v = s := by
        rcases Nat.lt_or_ge v n with q | q
        · exact absurd c43 (nI_ge q (by omega))
        · omega
      subst e0
      refine z_iload_n dX10_run_63 rfl rfl ?_
      exact z_iret dX10_run_64 rfl rfl rfl
    · have hlt : v < n := by
        rcases Nat.lt_or_ge v n with q | q
        · exact q
        · exact absurd (nI_le q (by omega)) c43
      refine z_aload_n dX10_run_46 rfl rfl ?_
      refine z_getI dX10_run_47 fl_X10_116 rfl rfl rfl ?_
      refine z_if_ne (tgt := 63) dX10_run_50 (by decide) (fun c50 => ?_) (fun c50 => ?_)
      · have e0 : v = s := by
          rcases Nat.lt_or_ge v s with q | q
          · exact absurd (hst v q).1 c50
          · omega
        subst e0
        refine z_iload_n dX10_run_63 rfl rfl ?_
        exact z_iret dX10_run_64 rfl rfl rfl
      · have hvs : v < s := by
          rcases Nat.lt_or_ge v s with q | q
          · exact q
          · have e0 : v = s := by omega
            subst e0
            exact absurd c50 (hend.resolve_left (by omega))
        refine z_aload_n dX10_run_53 rfl rfl ?_
        refine z_cV0 dX10_run_54 ml_X10_119 ((hst v hvs).2) rfl ⟨by decide, rfl⟩ rfl rfl (Nat.le_of_ble_eq_true rfl) ?_
        refine z_iinc dX10_run_57 rfl (nI_i _) (by decide) ?_
        show z_V _ _ _ _ _ _ _ _ _ [_, _, _] _ _
        refine z_goto (tgt := 41) dX10_run_60 (by decide) ?_
        exact ih (v + 1) (by omega) (by omega)
set_option maxRecDepth 100000 in
set_option maxHeartbeats 4000000 in
theorem sp_run {d : Nat} {σ : Nat → Nat → Int32} {τ : Nat → Nat → Int64} {F : Nat → Nat → Nat → Int32} {n s : Nat} (h500 : n ≤ 500) (hs : s ≤ n) (hst : ∀ j, j < s → F j 0 10 = 0 ∧ z_MV M_X10_step (d + 5) 0 0 [.ref 0] (124, z_r0, F j, τ) none (124, z_r0, F (j + 1), τ)) (hend : s = n ∨ ¬ F s 0 10 = 0) (h1 : 1 ≤ n) (hF0 : F 0 = σ) (hb : ¬ σ 0 9 = 0) : z_MV M_X10_run (d + 6) 0 0 [.ref 0, .int (nI n)] (124, z_r0, σ, τ) (some (.int (nI s))) (124, z_r0, F s, τ) := by
  refine z_MV.of pn_X10_run (Nat.le_of_ble_eq_true rfl) (by simp [Value.category]) rfl ?_
  show z_V _ _ _ _ _ _ _ _ _ [_, _, _] _ _
  refine z_iload_n dX10_run_0 rfl rfl ?_
  refine z_iconst (v := 1) dX10_run_1 (by decide) ?_
  refine z_icmp_lt (tgt := 12) dX10_run_2 (by decide) (fun c_ => absurd c_ (by rw [show (1 : Int32) = nI 1 by decide]; exact nI_nlt h1 (by omega))) (fun _ => ?_)
  refine z_iload_n dX10_run_5 rfl rfl ?_
  refine z_sipush (v := nI 500) dX10_run_6 (by decide) ?_
  refine z_icmp_le (tgt := 22) dX10_run_9 (by decide) (fun _ => ?_) (fun c_ => absurd (nI_le h500 (by decide)) c_)
  refine z_aload_n dX10_run_22 rfl rfl ?_
  refine z_getI dX10_run_23 fl_X10_80 rfl rfl rfl ?_
  refine z_if_ne (tgt := 39) dX10_run_26 (by decide) (fun _ => ?_) (fun c_ => absurd c_ (hb))
  refine z_iconst (v := 0) dX10_run_39 (by decide) ?_
  refine z_istore_n dX10_run_40 rfl (by decide) ?_
  show z_V _ _ _ _ _ _ _ _ _ [_, _, _] _ _
  refine z_Vx (σ' := F 0) hF0 ?_
  exact cr_loop h500 hs hst hend (s + 1) 0 (by omega) (by omega)
