/-! PART 54: TraceTier: where the face throws -/
set_option maxRecDepth 100000 in
set_option maxHeartbeats 4000000 in
theorem sx_local {d : Nat} {σ : Nat → Nat → Int32} {τ : Nat → Nat → Int64} {x : Int32} (h : x < 0 ∨ ¬ x < nI 6) : z_XM M_X10_local (d + 5) 1 6 [.ref 0, .int x] (124, z_r0, σ, τ) "java/lang/IndexOutOfBoundsException" (124, z_r0, σ, τ) := by
  refine z_XM.of pn_X10_local (Nat.le_of_ble_eq_true rfl) (by simp [Value.category]) rfl ?_
  show z_U _ _ _ _ _ _ _ _ _ [_, _] _ _
  refine zu_iload_n dX10_local_0 rfl rfl ?_
  refine zu_if_lt (tgt := 10) dX10_local_1 (by decide) (fun c1 => ?_) (fun c1 => ?_)
  · exact zu_throw (ik := 122) (is := 124) (ic := 126) (E := "java/lang/IndexOutOfBoundsException") (text := "no such local") (by decide +kernel) (by decide +kernel) rfl dX10_local_10 dX10_local_13 dX10_local_14 dX10_local_16 dX10_local_19 (by decide) (by decide) (Nat.le_of_ble_eq_true rfl)
  · refine zu_iload_n dX10_local_4 rfl rfl ?_
    refine zu_bipush (v := nI 6) dX10_local_5 (by decide) ?_
    refine zu_icmp_lt (tgt := 20) dX10_local_7 (by decide) (fun c_ => absurd c_ (h.resolve_left c1)) (fun _ => ?_)
    exact zu_throw (ik := 122) (is := 124) (ic := 126) (E := "java/lang/IndexOutOfBoundsException") (text := "no such local") (by decide +kernel) (by decide +kernel) rfl dX10_local_10 dX10_local_13 dX10_local_14 dX10_local_16 dX10_local_19 (by decide) (by decide) (Nat.le_of_ble_eq_true rfl)
set_option maxRecDepth 100000 in
set_option maxHeartbeats 4000000 in
theorem sx_top {d : Nat} {σ : Nat → Nat → Int32} {τ : Nat → Nat → Int64} {x : Int32} (h : x < 0 ∨ ¬ x < σ 6 2) : z_XM M_X10_top (d + 5) 1 6 [.ref 0, .int x] (124, z_r0, σ, τ) "java/lang/IndexOutOfBoundsException" (124, z_r0, σ, τ) := by
  refine z_XM.of pn_X10_top (Nat.le_of_ble_eq_true rfl) (by simp [Value.category]) rfl ?_
  show z_U _ _ _ _ _ _ _ _ _ [_, _] _ _
  refine zu_iload_n dX10_top_0 rfl rfl ?_
  refine zu_if_lt (tgt := 15) dX10_top_1 (by decide) (fun c1 => ?_) (fun c1 => ?_)
  · exact zu_throw (ik := 122) (is := 130) (ic := 126) (E := "java/lang/IndexOutOfBoundsException") (text := "the stack has no such number") (by decide +kernel) (by decide +kernel) rfl dX10_top_15 dX10_top_18 dX10_top_19 dX10_top_21 dX10_top_24 (by decide) (by decide) (Nat.le_of_ble_eq_true rfl)
  · refine zu_iload_n dX10_top_4 rfl rfl ?_
    refine zu_aload_n dX10_top_5 rfl rfl ?_
    refine zu_getR dX10_top_6 fl_X10_19 rfl rfl rfl ?_
    refine zu_getI dX10_top_9 fl_X10_127 rfl rfl rfl ?_
    refine zu_icmp_lt (tgt := 25) dX10_top_12 (by decide) (fun c_ => absurd c_ (h.resolve_left c1)) (fun _ => ?_)
    exact zu_throw (ik := 122) (is := 130) (ic := 126) (E := "java/lang/IndexOutOfBoundsException") (text := "the stack has no such number") (by decide +kernel) (by decide +kernel) rfl dX10_top_15 dX10_top_18 dX10_top_19 dX10_top_21 dX10_top_24 (by decide) (by decide) (Nat.le_of_ble_eq_true rfl)
set_option maxRecDepth 100000 in
set_option maxHeartbeats 4000000 in
theorem sx_out {d : Nat} {σ : Nat → Nat → Int32} {τ : Nat → Nat → Int64} {x : Int32} (h : ¬ (¬ x < 0 ∧ ¬ nI 30 ≤ x ∧ ¬ σ 9 2 ≤ x)) : z_XM M_X10_out (d + 5) 1 6 [.ref 0, .int x] (124, z_r0, σ, τ) "java/lang/IndexOutOfBoundsException" (124, z_r0, σ, τ) := by
  refine z_XM.of pn_X10_out (Nat.le_of_ble_eq_true rfl) (by simp [Value.category]) rfl ?_
  show z_U _ _ _ _ _ _ _ _ _ [_, _] _ _
  refine zu_aload_n dX10_out_0 rfl rfl ?_
  refine zu_getR dX10_out_1 fl_X10_26 rfl rfl rfl ?_
  refine zu_iload_n dX10_out_4 rfl rfl ?_
  refine zu_cV1 dX10_out_5 ml_X10_138 (sp_keeps) rfl ⟨by decide, rfl⟩ rfl rfl (Nat.le_of_ble_eq_true rfl) ?_
  refine zu_if_ne (tgt := 21) dX10_out_8 (by decide) (fun c_ => absurd (b2i_f h) c_) (fun _ => ?_)
  exact zu_throw (ik := 122) (is := 142) (ic := 126) (E := "java/lang/IndexOutOfBoundsException") (text := "no such number is kept") (by decide +kernel) (by decide +kernel) rfl dX10_out_11 dX10_out_14 dX10_out_15 dX10_out_17 dX10_out_20 (by decide) (by decide) (Nat.le_of_ble_eq_true rfl)
set_option maxRecDepth 100000 in
set_option maxHeartbeats 4000000 in
theorem sx_count {d : Nat} {σ : Nat → Nat → Int32} {τ : Nat → Nat → Int64} {x : Int32} (h : x.toInt < 0 ∨ 6 < x.toInt) : z_XM M_X10_count (d + 5) 1 6 [.ref 0, .int x] (124, z_r0, σ, τ) "java/lang/IndexOutOfBoundsException" (124, z_r0, σ, τ) := by
  refine z_XM.of pn_X10_count (Nat.le_of_ble_eq_true rfl) (by simp [Value.category]) rfl ?_
  show z_U _ _ _ _ _ _ _ _ _ [_, _] _ _
  refine zu_iload_n dX10_count_0 rfl rfl ?_
  refine zu_tableOut (tgt := 123) dX10_count_1 h (by decide) ?_
  exact zu_throw (ik := 122) (is := 169) (ic := 126) (E := "java/lang/IndexOutOfBoundsException") (text := "no such count") (by decide +kernel) (by decide +kernel) rfl dX10_count_123 dX10_count_126 dX10_count_127 dX10_count_129 dX10_count_132 (by decide) (by decide) (Nat.le_of_ble_eq_true rfl)
set_option maxRecDepth 100000 in
set_option maxHeartbeats 4000000 in
theorem sx_place {d : Nat} {σ : Nat → Nat → Int32} {τ : Nat → Nat → Int64} {x y : Int32} (h : x < 0 ∨ σ 1 2 ≤ x ∨ y < 0 ∨ ¬ y ≤ 1) : z_XM M_X10_place (d + 5) 1 6 [.ref 0, .int x, .int y] (124, z_r0, σ, τ) "java/lang/IndexOutOfBoundsException" (124, z_r0, σ, τ) := by
  refine z_XM.of pn_X10_place (Nat.le_of_ble_eq_true rfl) (by simp [Value.category]) rfl ?_
  show z_U _ _ _ _ _ _ _ _ _ [_, _, _] _ _
  refine zu_iload_n dX10_place_0 rfl rfl ?_
  refine zu_if_lt (tgt := 24) dX10_place_1 (by decide) (fun c1 => ?_) (fun c1 => ?_)
  · exact zu_throw (ik := 122) (is := 171) (ic := 126) (E := "java/lang/IndexOutOfBoundsException") (text := "no such instruction, or nothing told of it") (by decide +kernel) (by decide +kernel) rfl dX10_place_24 dX10_place_27 dX10_place_28 dX10_place_30 dX10_place_33 (by decide) (by decide) (Nat.le_of_ble_eq_true rfl)
  · refine zu_iload_n dX10_place_4 rfl rfl ?_
    refine zu_aload_n dX10_place_5 rfl rfl ?_
    refine zu_getR dX10_place_6 fl_X10_12 rfl rfl rfl ?_
    refine zu_getI dX10_place_9 fl_X10_84 rfl rfl rfl ?_
    refine zu_icmp_ge (tgt := 24) dX10_place_12 (by decide) (fun c12 => ?_) (fun c12 => ?_)
    · exact zu_throw (ik := 122) (is := 171) (ic := 126) (E := "java/lang/IndexOutOfBoundsException") (text := "no such instruction, or nothing told of it") (by decide +kernel) (by decide +kernel) rfl dX10_place_24 dX10_place_27 dX10_place_28 dX10_place_30 dX10_place_33 (by decide) (by decide) (Nat.le_of_ble_eq_true rfl)
    · refine zu_iload_n dX10_place_15 rfl rfl ?_
      refine zu_if_lt (tgt := 24) dX10_place_16 (by decide) (fun c16 => ?_) (fun c16 => ?_)
      · exact zu_throw (ik := 122) (is := 171) (ic := 126) (E := "java/lang/IndexOutOfBoundsException") (text := "no such instruction, or nothing told of it") (by decide +kernel) (by decide +kernel) rfl dX10_place_24 dX10_place_27 dX10_place_28 dX10_place_30 dX10_place_33 (by decide) (by decide) (Nat.le_of_ble_eq_true rfl)
      · refine zu_iload_n dX10_place_19 rfl rfl ?_
        refine zu_iconst (v := 1) dX10_place_20 (by decide) ?_
        refine zu_icmp_le (tgt := 34) dX10_place_21 (by decide) (fun c_ => absurd c_ (((h.resolve_left c1).resolve_left c12).resolve_left c16)) (fun _ => ?_)
        exact zu_throw (ik := 122) (is := 171) (ic := 126) (E := "java/lang/IndexOutOfBoundsException") (text := "no such instruction, or nothing told of it") (by decide +kernel) (by decide +kernel) rfl dX10_place_24 dX10_place_27 dX10_place_28 dX10_place_30 dX10_place_33 (by decide) (by decide) (Nat.le_of_ble_eq_true rfl)
set_option maxRecDepth 100000 in
set_option maxHeartbeats 4000000 in
theorem sx_trace {d : Nat} {σ : Nat → Nat → Int32} {τ : Nat → Nat → Int64} {x y : Int32} (h : x < 0 ∨ ¬ x < σ 0 8) : z_XM M_X10_trace (d + 5) 1 6 [.ref 0, .int x, .int y] (124, z_r0, σ, τ) "java/lang/IndexOutOfBoundsException" (124, z_r0, σ, τ) := by
  refine z_XM.of pn_X10_trace (Nat.le_of_ble_eq_true rfl) (by simp [Value.category]) rfl ?_
  show z_U _ _ _ _ _ _ _ _ _ [_, _, _, _] _ _
  refine zu_iload_n dX10_trace_0 rfl rfl ?_
  refine zu_if_lt (tgt := 12) dX10_trace_1 (by decide) (fun c1 => ?_) (fun c1 => ?_)
  · exact zu_throw (ik := 122) (is := 179) (ic := 126) (E := "java/lang/IndexOutOfBoundsException") (text := "no such trace") (by decide +kernel) (by decide +kernel) rfl dX10_trace_12 dX10_trace_15 dX10_trace_16 dX10_trace_18 dX10_trace_21 (by decide) (by decide) (Nat.le_of_ble_eq_true rfl)
  · refine zu_iload_n dX10_trace_4 rfl rfl ?_
    refine zu_aload_n dX10_trace_5 rfl rfl ?_
    refine zu_getI dX10_trace_6 fl_X10_163 rfl rfl rfl ?_
    refine zu_icmp_lt (tgt := 22) dX10_trace_9 (by decide) (fun c_ => absurd c_ (h.resolve_left c1)) (fun _ => ?_)
    exact zu_throw (ik := 122) (is := 179) (ic := 126) (E := "java/lang/IndexOutOfBoundsException") (text := "no such trace") (by decide +kernel) (by decide +kernel) rfl dX10_trace_12 dX10_trace_15 dX10_trace_16 dX10_trace_18 dX10_trace_21 (by decide) (by decide) (Nat.le_of_ble_eq_true rfl)
set_option maxRecDepth 100000 in
set_option maxHeartbeats 4000000 in
theorem sx_run {d : Nat} {σ : Nat → Nat → Int32} {τ : Nat → Nat → Int64} {x : Int32} (h : x < 1 ∨ ¬ x ≤ nI 500) : z_XM M_X10_run (d + 5) 1 6 [.ref 0, .int x] (124, z_r0, σ, τ) "java/lang/IllegalArgumentException" (124, z_r0, σ, τ) := by
  refine z_XM.of pn_X10_run (Nat.le_of_ble_eq_true rfl) (by simp [Value.category]) rfl ?_
  show z_U _ _ _ _ _ _ _ _ _ [_, _, _] _ _
  refine zu_iload_n dX10_run_0 rfl rfl ?_
  refine zu_iconst (v := 1) dX10_run_1 (by decide) ?_
  refine zu_icmp_lt (tgt := 12) dX10_run_2 (by decide) (fun c2 => ?_) (fun c2 => ?_)
  · exact zu_throw (ik := 73) (is := 112) (ic := 77) (E := "java/lang/IllegalArgumentException") (text := "steps are 1 .. 500") (by decide +kernel) (by decide +kernel) rfl dX10_run_12 dX10_run_15 dX10_run_16 dX10_run_18 dX10_run_21 (by decide) (by decide) (Nat.le_of_ble_eq_true rfl)
  · refine zu_iload_n dX10_run_5 rfl rfl ?_
    refine zu_sipush (v := nI 500) dX10_run_6 (by decide) ?_
    refine zu_icmp_le (tgt := 22) dX10_run_9 (by decide) (fun c_ => absurd c_ (h.resolve_left c2)) (fun _ => ?_)
    exact zu_throw (ik := 73) (is := 112) (ic := 77) (E := "java/lang/IllegalArgumentException") (text := "steps are 1 .. 500") (by decide +kernel) (by decide +kernel) rfl dX10_run_12 dX10_run_15 dX10_run_16 dX10_run_18 dX10_run_21 (by decide) (by decide) (Nat.le_of_ble_eq_true rfl)
set_option maxRecDepth 100000 in
set_option maxHeartbeats 4000000 in
theorem sx_run2 {d : Nat} {σ : Nat → Nat → Int32} {τ : Nat → Nat → Int64} {x : Int32} (h : ¬ x < 1 ∧ x ≤ nI 500) (hb : σ 0 9 = 0) : z_XM M_X10_run (d + 5) 1 6 [.ref 0, .int x] (124, z_r0, σ, τ) "java/lang/IllegalStateException" (124, z_r0, σ, τ) := by
  refine z_XM.of pn_X10_run (Nat.le_of_ble_eq_true rfl) (by simp [Value.category]) rfl ?_
  show z_U _ _ _ _ _ _ _ _ _ [_, _, _] _ _
  refine zu_iload_n dX10_run_0 rfl rfl ?_
  refine zu_iconst (v := 1) dX10_run_1 (by decide) ?_
  refine zu_icmp_lt (tgt := 12) dX10_run_2 (by decide) (fun c_ => absurd c_ (h.1)) (fun _ => ?_)
  refine zu_iload_n dX10_run_5 rfl rfl ?_
  refine zu_sipush (v := nI 500) dX10_run_6 (by decide) ?_
  refine zu_icmp_le (tgt := 22) dX10_run_9 (by decide) (fun _ => ?_) (fun c_ => absurd (h.2) c_)
  refine zu_aload_n dX10_run_22 rfl rfl ?_
  refine zu_getI dX10_run_23 fl_X10_80 rfl rfl rfl ?_
  refine zu_if_ne (tgt := 39) dX10_run_26 (by decide) (fun c_ => absurd (hb) c_) (fun _ => ?_)
  exact zu_throw (ik := 87) (is := 114) (ic := 91) (E := "java/lang/IllegalStateException") (text := "the program was not begun") (by decide +kernel) (by decide +kernel) rfl dX10_run_29 dX10_run_32 dX10_run_33 dX10_run_35 dX10_run_38 (by decide) (by decide) (Nat.le_of_ble_eq_true rfl)
set_option maxRecDepth 100000 in
set_option maxHeartbeats 4000000 in
theorem sx_add {d : Nat} {σ : Nat → Nat → Int32} {τ : Nat → Nat → Int64} {o x : Int32} (h : insB o x = 0) : z_XM M_X10_add (d + 5) 1 6 [.ref 0, .int o, .int x] (124, z_r0, σ, τ) "java/lang/IllegalArgumentException" (124, z_r0, σ, τ) := by
  refine z_XM.of pn_X10_add (Nat.le_of_ble_eq_true rfl) (by simp [Value.category]) rfl ?_
  show z_U _ _ _ _ _ _ _ _ _ [_, _, _] _ _
  refine zu_iload_n dX10_add_0 rfl rfl ?_
  refine zu_iload_n dX10_add_1 rfl rfl ?_
  refine zu_cS1 dX10_add_2 ml_X10_69 (sp_isInstruction) rfl rfl (Nat.le_of_ble_eq_true rfl) ?_
  refine zu_if_ne (tgt := 18) dX10_add_5 (by decide) (fun c_ => absurd (h) c_) (fun _ => ?_)
  exact zu_throw (ik := 73) (is := 75) (ic := 77) (E := "java/lang/IllegalArgumentException") (text := "no such operation, or none of its operands") (by decide +kernel) (by decide +kernel) rfl dX10_add_8 dX10_add_11 dX10_add_12 dX10_add_14 dX10_add_17 (by decide) (by decide) (Nat.le_of_ble_eq_true rfl)
set_option maxRecDepth 100000 in
set_option maxHeartbeats 4000000 in
theorem sx_add2 {d : Nat} {σ : Nat → Nat → Int32} {τ : Nat → Nat → Int64} {o x : Int32} (h : ¬ insB o x = 0) (h2 : ¬ σ 0 9 = 0 ∨ ¬ σ 1 2 < nI 40) : z_XM M_X10_add (d + 5) 1 6 [.ref 0, .int o, .int x] (124, z_r0, σ, τ) "java/lang/IllegalStateException" (124, z_r0, σ, τ) := by
  refine z_XM.of pn_X10_add (Nat.le_of_ble_eq_true rfl) (by simp [Value.category]) rfl ?_
  show z_U _ _ _ _ _ _ _ _ _ [_, _, _] _ _
  refine zu_iload_n dX10_add_0 rfl rfl ?_
  refine zu_iload_n dX10_add_1 rfl rfl ?_
  refine zu_cS1 dX10_add_2 ml_X10_69 (sp_isInstruction) rfl rfl (Nat.le_of_ble_eq_true rfl) ?_
  refine zu_if_ne (tgt := 18) dX10_add_5 (by decide) (fun _ => ?_) (fun c_ => absurd c_ (h))
  refine zu_aload_n dX10_add_18 rfl rfl ?_
  refine zu_getI dX10_add_19 fl_X10_80 rfl rfl rfl ?_
  refine zu_if_ne (tgt := 37) dX10_add_22 (by decide) (fun c22 => ?_) (fun c22 => ?_)
  · exact zu_throw (ik := 87) (is := 89) (ic := 91) (E := "java/lang/IllegalStateException") (text := "the program was begun, or the code is full") (by decide +kernel) (by decide +kernel) rfl dX10_add_37 dX10_add_40 dX10_add_41 dX10_add_43 dX10_add_46 (by decide) (by decide) (Nat.le_of_ble_eq_true rfl)
  · refine zu_aload_n dX10_add_25 rfl rfl ?_
    refine zu_getR dX10_add_26 fl_X10_12 rfl rfl rfl ?_
    refine zu_getI dX10_add_29 fl_X10_84 rfl rfl rfl ?_
    refine zu_bipush (v := nI 40) dX10_add_32 (by decide) ?_
    refine zu_icmp_lt (tgt := 47) dX10_add_34 (by decide) (fun c_ => absurd c_ (h2.resolve_left (fun z => z c22))) (fun _ => ?_)
    exact zu_throw (ik := 87) (is := 89) (ic := 91) (E := "java/lang/IllegalStateException") (text := "the program was begun, or the code is full") (by decide +kernel) (by decide +kernel) rfl dX10_add_37 dX10_add_40 dX10_add_41 dX10_add_43 dX10_add_46 (by decide) (by decide) (Nat.le_of_ble_eq_true rfl)
set_option maxRecDepth 100000 in
set_option maxHeartbeats 4000000 in
theorem sx_begin {d : Nat} {σ : Nat → Nat → Int32} {τ : Nat → Nat → Int64} {n : Nat} (h40 : n ≤ 40) (hn : σ 1 2 = nI n) (hw : wfC σ n) {a b w : Int32} (hs : (snd σ).1 = 0) : z_XM M_X10_begin (d + 5) 1 6 [.ref 0, .int a, .int b, .int w] (124, z_r0, σ, τ) "java/lang/IllegalArgumentException" (124, z_r0, (snd σ).2, τ) := by
  refine z_XM.of pn_X10_begin (Nat.le_of_ble_eq_true rfl) (by simp [Value.category]) rfl ?_
  show z_U _ _ _ _ _ _ _ _ _ [_, _, _, _, _] _ _
  refine zu_aload_n dX10_begin_0 rfl rfl ?_
  refine zu_getR dX10_begin_1 fl_X10_12 rfl rfl rfl ?_
  refine zu_cV1 dX10_begin_4 ml_X10_96 (sp_isSound h40 hn hw) rfl ⟨by decide, rfl⟩ rfl rfl (Nat.le_of_ble_eq_true rfl) ?_
  refine zu_if_ne (tgt := 20) dX10_begin_7 (by decide) (fun c_ => absurd (hs) c_) (fun _ => ?_)
  exact zu_throw (ik := 73) (is := 100) (ic := 77) (E := "java/lang/IllegalArgumentException") (text := "the code is not sound") (by decide +kernel) (by decide +kernel) rfl dX10_begin_10 dX10_begin_13 dX10_begin_14 dX10_begin_16 dX10_begin_19 (by decide) (by decide) (Nat.le_of_ble_eq_true rfl)
set_option maxRecDepth 100000 in
set_option maxHeartbeats 4000000 in
theorem sx_trace2 {d : Nat} {σ : Nat → Nat → Int32} {τ : Nat → Nat → Int64} {y : Int32} {v n : Nat} (hn : σ 0 8 = nI n) (hn4 : n ≤ 4) (hv : v < n) (ht : v < 4) (h : y.toInt < 0 ∨ 5 < y.toInt) : z_XM M_X10_trace (d + 5) 1 6 [.ref 0, .int (nI v), .int y] (124, z_r0, σ, τ) "java/lang/IndexOutOfBoundsException" (124, z_r0, σ, τ) := by
  refine z_XM.of pn_X10_trace (Nat.le_of_ble_eq_true rfl) (by simp [Value.category]) rfl ?_
  show z_U _ _ _ _ _ _ _ _ _ [_, _, _, _] _ _
  refine zu_iload_n dX10_trace_0 rfl rfl ?_
  refine zu_if_lt (tgt := 12) dX10_trace_1 (by decide) (fun c_ => absurd c_ (nI_pos (by omega))) (fun _ => ?_)
  refine zu_iload_n dX10_trace_4 rfl rfl ?_
  refine zu_aload_n dX10_trace_5 rfl rfl ?_
  refine zu_getI dX10_trace_6 fl_X10_163 rfl rfl hn ?_
  refine zu_icmp_lt (tgt := 22) dX10_trace_9 (by decide) (fun _ => ?_) (fun c_ => absurd (nI_lt hv (by omega)) c_)
  refine zu_aload_n dX10_trace_22 rfl rfl ?_
  refine zu_getR dX10_trace_23 fl_X10_60 rfl rfl rfl ?_
  refine zu_iload_n dX10_trace_26 rfl rfl ?_
  have hk := tr_k (t := v) ht
  have hr := tr_r (t := v) ht
  refine zu_aald dX10_trace_27 rfl rfl (by omega) hr.1 ?_
  refine zu_astore_n dX10_trace_28 rfl (by decide) ?_
  show z_U _ _ _ _ _ _ _ _ _ [_, _, _, _] _ _
  refine zu_iload_n dX10_trace_29 rfl rfl ?_
  refine zu_tableOut (tgt := 101) dX10_trace_30 h (by decide) ?_
  exact zu_throw (ik := 122) (is := 204) (ic := 126) (E := "java/lang/IndexOutOfBoundsException") (text := "nothing such is told of a trace") (by decide +kernel) (by decide +kernel) rfl dX10_trace_101 dX10_trace_104 dX10_trace_105 dX10_trace_107 dX10_trace_110 (by decide) (by decide) (Nat.le_of_ble_eq_true rfl)
