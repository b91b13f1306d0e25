/-! PART 57: the constructors -/
def z_po : List (Nat × Nat) := [(1, 0), (1, 1), (1, 3), (1, 4), (0, 0), (6, 0), (6, 1), (0, 1), (9, 0), (0, 2), (0, 3), (12, 0), (12, 1), (12, 2), (0, 4), (16, 0), (16, 1), (0, 5), (20, 0), (20, 1), (19, 0), (19, 1), (19, 2), (19, 4), (19, 5), (0, 6), (0, 7), (29, 0), (29, 1), (29, 2), (29, 3), (28, 0), (34, 0), (34, 1), (34, 2), (34, 3), (34, 4), (28, 1), (28, 2), (28, 6), (28, 7), (28, 8), (27, 0), (45, 0), (45, 1), (45, 2), (45, 3), (44, 0), (50, 0), (50, 1), (50, 2), (50, 3), (50, 4), (44, 1), (44, 2), (44, 6), (44, 7), (44, 8), (27, 1), (61, 0), (61, 1), (61, 2), (61, 3), (60, 0), (66, 0), (66, 1), (66, 2), (66, 3), (66, 4), (60, 1), (60, 2), (60, 6), (60, 7), (60, 8), (27, 2), (77, 0), (77, 1), (77, 2), (77, 3), (76, 0), (82, 0), (82, 1), (82, 2), (82, 3), (82, 4), (76, 1), (76, 2), (76, 6), (76, 7), (76, 8), (27, 3), (92, 2), (92, 3), (92, 4), (92, 8), (92, 10), (92, 12), (92, 13), (92, 14), (92, 17), (92, 18), (92, 21), (92, 22), (92, 23), (92, 24), (92, 25), (92, 26), (92, 27), (92, 28), (92, 29), (92, 30), (92, 36), (92, 37), (92, 38), (92, 39), (92, 40), (92, 41), (92, 42), (92, 43), (92, 45), (92, 46)]
def z_rp (m : Nat) (i j : Nat) : Option Nat := if (z_po.take m).contains (i, j) = true then z_r0 i j else none
theorem z_rp_s {m i k o : Nat} (h : z_po[m]? = some (i, k)) (ho : z_r0 i k = some o) : z_up (z_rp m) i k (some o) = z_rp (m + 1) := by
  funext a b
  have hc : (z_po.take (m + 1)).contains (a, b) = true ↔ (z_po.take m).contains (a, b) = true ∨ (a = i ∧ b = k) := by
    rw [List.take_add_one, h]
    simp [List.contains_iff_mem]
  simp only [z_up, z_rp]
  by_cases hab : a = i ∧ b = k
  · rw [if_pos hab, if_pos (hc.mpr (Or.inr hab)), hab.1, hab.2, ho]
  · rw [if_neg hab]
    by_cases h2 : (z_po.take m).contains (a, b) = true
    · rw [if_pos h2, if_pos (hc.mpr (Or.inl h2))]
    · rw [if_neg h2, if_neg (fun z => (hc.mp z).elim h2 hab)]
theorem z_rpn {m n : Nat} (h : (z_po.take m).all (fun q => !(q.1 == n)) = true) : z_rp m n = fun _ => none := by
  funext j
  unfold z_rp
  rw [if_neg]
  intro hc
  have := List.all_eq_true.mp h (n, j) (List.contains_iff_mem.mp hc)
  simp at this
theorem z_rp_0 : z_rp 0 = fun _ _ => none := by
  funext i j
  simp [z_rp]
set_option maxRecDepth 100000 in
set_option maxHeartbeats 4000000 in
theorem ci_X0_init_1 {d : Nat} {τ : Nat → Nat → Int64} : z_MV M_X0_init d 4 160 [.ref 1] (2, z_rp 0, (fun _ _ => 0), τ) none (6, z_rp 4, (fun _ _ => 0), τ) := by
  refine z_MV.of pn_X0_init (Nat.le_of_ble_eq_true rfl) (by simp [Value.category]) rfl ?_
  show z_V _ _ _ _ _ _ _ _ _ [_] _ _
  refine z_aload_n dX0_init_0 rfl rfl ?_
  refine z_objInit dX0_init_1 ol_X0_3 (Nat.le_of_ble_eq_true rfl) ?_
  refine z_aload_n dX0_init_4 rfl rfl ?_
  refine z_bipush (v := nI 40) dX0_init_5 (by decide) ?_
  refine z_newI (N := 40) (rc' := 3) (rs' := 120) dX0_init_7 acI rfl rfl (z_rpn (by decide +kernel)) (by funext j; simp [z_up]) ⟨by decide, by decide⟩ ?_
  refine z_putRF dX0_init_9 fl_X0_9 rfl rfl rfl rfl rfl ?_
  rw [z_rp_s (m := 0) (by decide +kernel) (by decide +kernel)]
  refine z_aload_n dX0_init_12 rfl rfl ?_
  refine z_bipush (v := nI 40) dX0_init_13 (by decide) ?_
  refine z_newI (N := 40) (rc' := 2) (rs' := 80) dX0_init_15 acI rfl rfl (z_rpn (by decide +kernel)) (by funext j; simp [z_up]) ⟨by decide, by decide⟩ ?_
  refine z_putRF dX0_init_17 fl_X0_15 rfl rfl rfl rfl rfl ?_
  rw [z_rp_s (m := 1) (by decide +kernel) (by decide +kernel)]
  refine z_aload_n dX0_init_20 rfl rfl ?_
  refine z_bipush (v := nI 40) dX0_init_21 (by decide) ?_
  refine z_newI (N := 40) (rc' := 1) (rs' := 40) dX0_init_23 acI rfl rfl (z_rpn (by decide +kernel)) (by funext j; simp [z_up]) ⟨by decide, by decide⟩ ?_
  refine z_putRF dX0_init_25 fl_X0_18 rfl rfl rfl rfl rfl ?_
  rw [z_rp_s (m := 2) (by decide +kernel) (by decide +kernel)]
  refine z_aload_n dX0_init_28 rfl rfl ?_
  refine z_bipush (v := nI 40) dX0_init_29 (by decide) ?_
  refine z_newI (N := 40) (rc' := 0) (rs' := 0) dX0_init_31 acI rfl rfl (z_rpn (by decide +kernel)) (by funext j; simp [z_up]) ⟨by decide, by decide⟩ ?_
  refine z_putRF dX0_init_33 fl_X0_21 rfl rfl rfl rfl rfl ?_
  rw [z_rp_s (m := 3) (by decide +kernel) (by decide +kernel)]
  exact z_vret dX0_init_36 rfl rfl rfl
set_option maxRecDepth 100000 in
set_option maxHeartbeats 4000000 in
theorem ci_X1_init_6 {d : Nat} {τ : Nat → Nat → Int64} : z_MV M_X1_init d 2 12 [.ref 6] (7, z_rp 5, (fun _ _ => 0), τ) none (9, z_rp 7, (fun _ _ => 0), τ) := by
  refine z_MV.of pn_X1_init (Nat.le_of_ble_eq_true rfl) (by simp [Value.category]) rfl ?_
  show z_V _ _ _ _ _ _ _ _ _ [_] _ _
  refine z_aload_n dX1_init_0 rfl rfl ?_
  refine z_objInit dX1_init_1 ol_X1_3 (Nat.le_of_ble_eq_true rfl) ?_
  refine z_aload_n dX1_init_4 rfl rfl ?_
  refine z_bipush (v := nI 6) dX1_init_5 (by decide) ?_
  refine z_newI (N := 6) (rc' := 1) (rs' := 6) dX1_init_7 acI rfl rfl (z_rpn (by decide +kernel)) (by funext j; simp [z_up]) ⟨by decide, by decide⟩ ?_
  refine z_putRF dX1_init_9 fl_X1_9 rfl rfl rfl rfl rfl ?_
  rw [z_rp_s (m := 5) (by decide +kernel) (by decide +kernel)]
  refine z_aload_n dX1_init_12 rfl rfl ?_
  refine z_bipush (v := nI 6) dX1_init_13 (by decide) ?_
  refine z_newI (N := 6) (rc' := 0) (rs' := 0) dX1_init_15 acI rfl rfl (z_rpn (by decide +kernel)) (by funext j; simp [z_up]) ⟨by decide, by decide⟩ ?_
  refine z_putRF dX1_init_17 fl_X1_15 rfl rfl rfl rfl rfl ?_
  rw [z_rp_s (m := 6) (by decide +kernel) (by decide +kernel)]
  exact z_vret dX1_init_20 rfl rfl rfl
set_option maxRecDepth 100000 in
set_option maxHeartbeats 4000000 in
theorem ci_X2_init_9 {d : Nat} {τ : Nat → Nat → Int64} : z_MV M_X2_init d 1 30 [.ref 9] (10, z_rp 8, (fun _ _ => 0), τ) none (11, z_rp 9, (fun _ _ => 0), τ) := by
  refine z_MV.of pn_X2_init (Nat.le_of_ble_eq_true rfl) (by simp [Value.category]) rfl ?_
  show z_V _ _ _ _ _ _ _ _ _ [_] _ _
  refine z_aload_n dX2_init_0 rfl rfl ?_
  refine z_objInit dX2_init_1 ol_X2_3 (Nat.le_of_ble_eq_true rfl) ?_
  refine z_aload_n dX2_init_4 rfl rfl ?_
  refine z_bipush (v := nI 30) dX2_init_5 (by decide) ?_
  refine z_newI (N := 30) (rc' := 0) (rs' := 0) dX2_init_7 acI rfl rfl (z_rpn (by decide +kernel)) (by funext j; simp [z_up]) ⟨by decide, by decide⟩ ?_
  refine z_putRF dX2_init_9 fl_X2_9 rfl rfl rfl rfl rfl ?_
  rw [z_rp_s (m := 8) (by decide +kernel) (by decide +kernel)]
  exact z_vret dX2_init_12 rfl rfl rfl
set_option maxRecDepth 100000 in
set_option maxHeartbeats 4000000 in
theorem ci_X6_init_11 {d : Nat} {τ : Nat → Nat → Int64} : z_MV M_X6_init d 0 0 [.ref 11] (12, z_rp 10, (fun _ _ => 0), τ) none (12, z_rp 10, (fun _ _ => 0), τ) := by
  refine z_MV.of pn_X6_init (Nat.le_of_ble_eq_true rfl) (by simp [Value.category]) rfl ?_
  show z_V _ _ _ _ _ _ _ _ _ [_] _ _
  refine z_aload_n dX6_init_0 rfl rfl ?_
  refine z_objInit dX6_init_1 ol_X6_1 (Nat.le_of_ble_eq_true rfl) ?_
  exact z_vret dX6_init_4 rfl rfl rfl
set_option maxRecDepth 100000 in
set_option maxHeartbeats 4000000 in
theorem ci_X4_init_12 {d : Nat} {τ : Nat → Nat → Int64} : z_MV M_X4_init d 3 120 [.ref 12] (13, z_rp 11, (fun _ _ => 0), τ) none (16, z_rp 14, (fun _ _ => 0), τ) := by
  refine z_MV.of pn_X4_init (Nat.le_of_ble_eq_true rfl) (by simp [Value.category]) rfl ?_
  show z_V _ _ _ _ _ _ _ _ _ [_] _ _
  refine z_aload_n dX4_init_0 rfl rfl ?_
  refine z_objInit dX4_init_1 ol_X4_3 (Nat.le_of_ble_eq_true rfl) ?_
  refine z_aload_n dX4_init_4 rfl rfl ?_
  refine z_bipush (v := nI 40) dX4_init_5 (by decide) ?_
  refine z_newI (N := 40) (rc' := 2) (rs' := 80) dX4_init_7 acI rfl rfl (z_rpn (by decide +kernel)) (by funext j; simp [z_up]) ⟨by decide, by decide⟩ ?_
  refine z_putRF dX4_init_9 fl_X4_9 rfl rfl rfl rfl rfl ?_
  rw [z_rp_s (m := 11) (by decide +kernel) (by decide +kernel)]
  refine z_aload_n dX4_init_12 rfl rfl ?_
  refine z_bipush (v := nI 40) dX4_init_13 (by decide) ?_
  refine z_newI (N := 40) (rc' := 1) (rs' := 40) dX4_init_15 acI rfl rfl (z_rpn (by decide +kernel)) (by funext j; simp [z_up]) ⟨by decide, by decide⟩ ?_
  refine z_putRF dX4_init_17 fl_X4_15 rfl rfl rfl rfl rfl ?_
  rw [z_rp_s (m := 12) (by decide +kernel) (by decide +kernel)]
  refine z_aload_n dX4_init_20 rfl rfl ?_
  refine z_bipush (v := nI 40) dX4_init_21 (by decide) ?_
  refine z_newI (N := 40) (rc' := 0) (rs' := 0) dX4_init_23 acI rfl rfl (z_rpn (by decide +kernel)) (by funext j; simp [z_up]) ⟨by decide, by decide⟩ ?_
  refine z_putRF dX4_init_25 fl_X4_18 rfl rfl rfl rfl rfl ?_
  rw [z_rp_s (m := 13) (by decide +kernel) (by decide +kernel)]
  exact z_vret dX4_init_28 rfl rfl rfl
set_option maxRecDepth 100000 in
set_option maxHeartbeats 4000000 in
theorem ci_X5_init_16 {d : Nat} {τ : Nat → Nat → Int64} : z_MV M_X5_init d 2 60 [.ref 16] (17, z_rp 15, (fun _ _ => 0), τ) none (19, z_rp 17, (z_up (fun _ _ => 0) 16 2 (-1)), τ) := by
  refine z_MV.of pn_X5_init (Nat.le_of_ble_eq_true rfl) (by simp [Value.category]) rfl ?_
  show z_V _ _ _ _ _ _ _ _ _ [_] _ _
  refine z_aload_n dX5_init_0 rfl rfl ?_
  refine z_objInit dX5_init_1 ol_X5_3 (Nat.le_of_ble_eq_true rfl) ?_
  refine z_aload_n dX5_init_4 rfl rfl ?_
  refine z_bipush (v := nI 30) dX5_init_5 (by decide) ?_
  refine z_newI (N := 30) (rc' := 1) (rs' := 30) dX5_init_7 acI rfl rfl (z_rpn (by decide +kernel)) (by funext j; simp [z_up]) ⟨by decide, by decide⟩ ?_
  refine z_putRF dX5_init_9 fl_X5_9 rfl rfl rfl rfl rfl ?_
  rw [z_rp_s (m := 15) (by decide +kernel) (by decide +kernel)]
  refine z_aload_n dX5_init_12 rfl rfl ?_
  refine z_bipush (v := nI 30) dX5_init_13 (by decide) ?_
  refine z_newZ (N := 30) (rc' := 0) (rs' := 0) dX5_init_15 acZ rfl rfl (z_rpn (by decide +kernel)) (by funext j; simp [z_up]) ⟨by decide, by decide⟩ ?_
  refine z_putRF dX5_init_17 fl_X5_15 rfl rfl rfl rfl rfl ?_
  rw [z_rp_s (m := 16) (by decide +kernel) (by decide +kernel)]
  refine z_aload_n dX5_init_20 rfl rfl ?_
  refine z_iconst (v := (-1)) dX5_init_21 (by decide) ?_
  refine z_putI dX5_init_22 fl_X5_19 rfl rfl (Or.inl rfl) rfl ?_
  exact z_vret dX5_init_25 rfl rfl rfl
set_option maxRecDepth 100000 in
set_option maxHeartbeats 4000000 in
theorem ci_X1_init_20 {d : Nat} {τ : Nat → Nat → Int64} : z_MV M_X1_init d 2 12 [.ref 20] (21, z_rp 18, (z_up (fun _ _ => 0) 16 2 (-1)), τ) none (23, z_rp 20, (z_up (fun _ _ => 0) 16 2 (-1)), τ) := by
  refine z_MV.of pn_X1_init (Nat.le_of_ble_eq_true rfl) (by simp [Value.category]) rfl ?_
  show z_V _ _ _ _ _ _ _ _ _ [_] _ _
  refine z_aload_n dX1_init_0 rfl rfl ?_
  refine z_objInit dX1_init_1 ol_X1_3 (Nat.le_of_ble_eq_true rfl) ?_
  refine z_aload_n dX1_init_4 rfl rfl ?_
  refine z_bipush (v := nI 6) dX1_init_5 (by decide) ?_
  refine z_newI (N := 6) (rc' := 1) (rs' := 6) dX1_init_7 acI rfl rfl (z_rpn (by decide +kernel)) (by funext j; simp [z_up]) ⟨by decide, by decide⟩ ?_
  refine z_putRF dX1_init_9 fl_X1_9 rfl rfl rfl rfl rfl ?_
  rw [z_rp_s (m := 18) (by decide +kernel) (by decide +kernel)]
  refine z_aload_n dX1_init_12 rfl rfl ?_
  refine z_bipush (v := nI 6) dX1_init_13 (by decide) ?_
  refine z_newI (N := 6) (rc' := 0) (rs' := 0) dX1_init_15 acI rfl rfl (z_rpn (by decide +kernel)) (by funext j; simp [z_up]) ⟨by decide, by decide⟩ ?_
  refine z_putRF dX1_init_17 fl_X1_15 rfl rfl rfl rfl rfl ?_
  rw [z_rp_s (m := 19) (by decide +kernel) (by decide +kernel)]
  exact z_vret dX1_init_20 rfl rfl rfl
set_option maxRecDepth 100000 in
set_option maxHeartbeats 4000000 in
theorem ci_X8_init_19 {d : Nat} {τ : Nat → Nat → Int64} : z_MV M_X8_init (d + 1) 7 148 [.ref 19] (20, z_rp 18, (z_up (fun _ _ => 0) 16 2 (-1)), τ) none (27, z_rp 25, (z_up (fun _ _ => 0) 16 2 (-1)), τ) := by
  refine z_MV.of pn_X8_init (Nat.le_of_ble_eq_true rfl) (by simp [Value.category]) rfl ?_
  show z_V _ _ _ _ _ _ _ _ _ [_] _ _
  refine z_aload_n dX8_init_0 rfl rfl ?_
  refine z_objInit dX8_init_1 ol_X8_3 (Nat.le_of_ble_eq_true rfl) ?_
  refine z_aload_n dX8_init_4 rfl rfl ?_
  refine z_new (ci := 1) (rc' := 6) (rs' := 144) dX8_init_5 (by decide) nl_X8_9 rfl (z_rpn (by decide +kernel)) (by funext j; simp [z_up]) ⟨by decide, by decide⟩ ?_
  refine z_dup dX8_init_8 rfl ?_
  refine z_callN (rc' := 4) (rs' := 132) dX8_init_9 ml_X8_11 ci_X1_init_20 rfl rfl (Nat.le_of_ble_eq_true rfl) ⟨by decide, by decide⟩ ?_
  refine z_putRF dX8_init_12 fl_X8_12 rfl rfl rfl rfl rfl ?_
  rw [z_rp_s (m := 20) (by decide +kernel) (by decide +kernel)]
  refine z_aload_n dX8_init_15 rfl rfl ?_
  refine z_bipush (v := nI 30) dX8_init_16 (by decide) ?_
  refine z_newI (N := 30) (rc' := 3) (rs' := 102) dX8_init_18 acI rfl rfl (z_rpn (by decide +kernel)) (by funext j; simp [z_up]) ⟨by decide, by decide⟩ ?_
  refine z_putRF dX8_init_20 fl_X8_18 rfl rfl rfl rfl rfl ?_
  rw [z_rp_s (m := 21) (by decide +kernel) (by decide +kernel)]
  refine z_aload_n dX8_init_23 rfl rfl ?_
  refine z_bipush (v := nI 30) dX8_init_24 (by decide) ?_
  refine z_newI (N := 30) (rc' := 2) (rs' := 72) dX8_init_26 acI rfl rfl (z_rpn (by decide +kernel)) (by funext j; simp [z_up]) ⟨by decide, by decide⟩ ?_
  refine z_putRF dX8_init_28 fl_X8_22 rfl rfl rfl rfl rfl ?_
  rw [z_rp_s (m := 22) (by decide +kernel) (by decide +kernel)]
  refine z_aload_n dX8_init_31 rfl rfl ?_
  refine z_bipush (v := nI 36) dX8_init_32 (by decide) ?_
  refine z_newZ (N := 36) (rc' := 1) (rs' := 36) dX8_init_34 acZ rfl rfl (z_rpn (by decide +kernel)) (by funext j; simp [z_up]) ⟨by decide, by decide⟩ ?_
  refine z_putRF dX8_init_36 fl_X8_25 rfl rfl rfl rfl rfl ?_
  rw [z_rp_s (m := 23) (by decide +kernel) (by decide +kernel)]
  refine z_aload_n dX8_init_39 rfl rfl ?_
  refine z_bipush (v := nI 36) dX8_init_40 (by decide) ?_
  refine z_newZ (N := 36) (rc' := 0) (rs' := 0) dX8_init_42 acZ rfl rfl (z_rpn (by decide +kernel)) (by funext j; simp [z_up]) ⟨by decide, by decide⟩ ?_
  refine z_putRF dX8_init_44 fl_X8_29 rfl rfl rfl rfl rfl ?_
  rw [z_rp_s (m := 24) (by decide +kernel) (by decide +kernel)]
  exact z_vret dX8_init_47 rfl rfl rfl
set_option maxRecDepth 100000 in
set_option maxHeartbeats 4000000 in
theorem ci_X9_init_29 {d : Nat} {τ : Nat → Nat → Int64} : z_MV M_X9_init d 4 144 [.ref 29] (30, z_rp 27, (z_up (fun _ _ => 0) 16 2 (-1)), τ) none (34, z_rp 31, (z_up (fun _ _ => 0) 16 2 (-1)), τ) := by
  refine z_MV.of pn_X9_init (Nat.le_of_ble_eq_true rfl) (by simp [Value.category]) rfl ?_
  show z_V _ _ _ _ _ _ _ _ _ [_] _ _
  refine z_aload_n dX9_init_0 rfl rfl ?_
  refine z_objInit dX9_init_1 ol_X9_3 (Nat.le_of_ble_eq_true rfl) ?_
  refine z_aload_n dX9_init_4 rfl rfl ?_
  refine z_bipush (v := nI 36) dX9_init_5 (by decide) ?_
  refine z_newI (N := 36) (rc' := 3) (rs' := 108) dX9_init_7 acI rfl rfl (z_rpn (by decide +kernel)) (by funext j; simp [z_up]) ⟨by decide, by decide⟩ ?_
  refine z_putRF dX9_init_9 fl_X9_9 rfl rfl rfl rfl rfl ?_
  rw [z_rp_s (m := 27) (by decide +kernel) (by decide +kernel)]
  refine z_aload_n dX9_init_12 rfl rfl ?_
  refine z_bipush (v := nI 36) dX9_init_13 (by decide) ?_
  refine z_newI (N := 36) (rc' := 2) (rs' := 72) dX9_init_15 acI rfl rfl (z_rpn (by decide +kernel)) (by funext j; simp [z_up]) ⟨by decide, by decide⟩ ?_
  refine z_putRF dX9_init_17 fl_X9_15 rfl rfl rfl rfl rfl ?_
  rw [z_rp_s (m := 28) (by decide +kernel) (by decide +kernel)]
  refine z_aload_n dX9_init_20 rfl rfl ?_
  refine z_bipush (v := nI 36) dX9_init_21 (by decide) ?_
  refine z_newI (N := 36) (rc' := 1) (rs' := 36) dX9_init_23 acI rfl rfl (z_rpn (by decide +kernel)) (by funext j; simp [z_up]) ⟨by decide, by decide⟩ ?_
  refine z_putRF dX9_init_25 fl_X9_18 rfl rfl rfl rfl rfl ?_
  rw [z_rp_s (m := 29) (by decide +kernel) (by decide +kernel)]
  refine z_aload_n dX9_init_28 rfl rfl ?_
  refine z_bipush (v := nI 36) dX9_init_29 (by decide) ?_
  refine z_newI (N := 36) (rc' := 0) (rs' := 0) dX9_init_31 acI rfl rfl (z_rpn (by decide +kernel)) (by funext j; simp [z_up]) ⟨by decide, by decide⟩ ?_
  refine z_putRF dX9_init_33 fl_X9_21 rfl rfl rfl rfl rfl ?_
  rw [z_rp_s (m := 30) (by decide +kernel) (by decide +kernel)]
  exact z_vret dX9_init_36 rfl rfl rfl
set_option maxRecDepth 100000 in
set_option maxHeartbeats 4000000 in
theorem ci_X3_init_34 {d : Nat} {τ : Nat → Nat → Int64} : z_MV M_X3_init d 5 240 [.ref 34] (35, z_rp 32, (z_up (fun _ _ => 0) 16 2 (-1)), τ) none (40, z_rp 37, (z_up (fun _ _ => 0) 16 2 (-1)), τ) := by
  refine z_MV.of pn_X3_init (Nat.le_of_ble_eq_true rfl) (by simp [Value.category]) rfl ?_
  show z_V _ _ _ _ _ _ _ _ _ [_] _ _
  refine z_aload_n dX3_init_0 rfl rfl ?_
  refine z_objInit dX3_init_1 ol_X3_3 (Nat.le_of_ble_eq_true rfl) ?_
  refine z_aload_n dX3_init_4 rfl rfl ?_
  refine z_bipush (v := nI 15) dX3_init_5 (by decide) ?_
  refine z_newI (N := 15) (rc' := 4) (rs' := 225) dX3_init_7 acI rfl rfl (z_rpn (by decide +kernel)) (by funext j; simp [z_up]) ⟨by decide, by decide⟩ ?_
  refine z_putRF dX3_init_9 fl_X3_9 rfl rfl rfl rfl rfl ?_
  rw [z_rp_s (m := 32) (by decide +kernel) (by decide +kernel)]
  refine z_aload_n dX3_init_12 rfl rfl ?_
  refine z_bipush (v := nI 15) dX3_init_13 (by decide) ?_
  refine z_newZ (N := 15) (rc' := 3) (rs' := 210) dX3_init_15 acZ rfl rfl (z_rpn (by decide +kernel)) (by funext j; simp [z_up]) ⟨by decide, by decide⟩ ?_
  refine z_putRF dX3_init_17 fl_X3_15 rfl rfl rfl rfl rfl ?_
  rw [z_rp_s (m := 33) (by decide +kernel) (by decide +kernel)]
  refine z_aload_n dX3_init_20 rfl rfl ?_
  refine z_bipush (v := nI 15) dX3_init_21 (by decide) ?_
  refine z_newI (N := 15) (rc' := 2) (rs' := 195) dX3_init_23 acI rfl rfl (z_rpn (by decide +kernel)) (by funext j; simp [z_up]) ⟨by decide, by decide⟩ ?_
  refine z_putRF dX3_init_25 fl_X3_19 rfl rfl rfl rfl rfl ?_
  rw [z_rp_s (m := 34) (by decide +kernel) (by decide +kernel)]
  refine z_aload_n dX3_init_28 rfl rfl ?_
  refine z_bipush (v := nI 15) dX3_init_29 (by decide) ?_
  refine z_newI (N := 15) (rc' := 1) (rs' := 180) dX3_init_31 acI rfl rfl (z_rpn (by decide +kernel)) (by funext j; simp [z_up]) ⟨by decide, by decide⟩ ?_
  refine z_putRF dX3_init_33 fl_X3_22 rfl rfl rfl rfl rfl ?_
  rw [z_rp_s (m := 35) (by decide +kernel) (by decide +kernel)]
  refine z_aload_n dX3_init_36 rfl rfl ?_
  refine z_sipush (v := nI 180) dX3_init_37 (by decide) ?_
  refine z_newI (N := 180) (rc' := 0) (rs' := 0) dX3_init_40 acI rfl rfl (z_rpn (by decide +kernel)) (by funext j; simp [z_up]) ⟨by decide, by decide⟩ ?_
  refine z_putRF dX3_init_42 fl_X3_25 rfl rfl rfl rfl rfl ?_
  rw [z_rp_s (m := 36) (by decide +kernel) (by decide +kernel)]
  exact z_vret dX3_init_45 rfl rfl rfl
set_option maxRecDepth 100000 in
set_option maxHeartbeats 4000000 in
theorem ci_X7_init_28 {d : Nat} {τ : Nat → Nat → Int64} : z_MV M_X7_init (d + 1) 15 491 [.ref 28] (29, z_rp 27, (z_up (fun _ _ => 0) 16 2 (-1)), τ) none (44, z_rp 42, (z_up (fun _ _ => 0) 16 2 (-1)), τ) := by
  refine z_MV.of pn_X7_init (Nat.le_of_ble_eq_true rfl) (by simp [Value.category]) rfl ?_
  show z_V _ _ _ _ _ _ _ _ _ [_] _ _
  refine z_aload_n dX7_init_0 rfl rfl ?_
  refine z_objInit dX7_init_1 ol_X7_3 (Nat.le_of_ble_eq_true rfl) ?_
  refine z_aload_n dX7_init_4 rfl rfl ?_
  refine z_new (ci := 9) (rc' := 14) (rs' := 486) dX7_init_5 (by decide) nl_X7_9 rfl (z_rpn (by decide +kernel)) (by funext j; simp [z_up]) ⟨by decide, by decide⟩ ?_
  refine z_dup dX7_init_8 rfl ?_
  refine z_callN (rc' := 10) (rs' := 342) dX7_init_9 ml_X7_11 ci_X9_init_29 rfl rfl (Nat.le_of_ble_eq_true rfl) ⟨by decide, by decide⟩ ?_
  refine z_putRF dX7_init_12 fl_X7_12 rfl rfl rfl rfl rfl ?_
  rw [z_rp_s (m := 31) (by decide +kernel) (by decide +kernel)]
  refine z_aload_n dX7_init_15 rfl rfl ?_
  refine z_new (ci := 3) (rc' := 9) (rs' := 336) dX7_init_16 (by decide) nl_X7_18 rfl (z_rpn (by decide +kernel)) (by funext j; simp [z_up]) ⟨by decide, by decide⟩ ?_
  refine z_dup dX7_init_19 rfl ?_
  refine z_callN (rc' := 4) (rs' := 96) dX7_init_20 ml_X7_20 ci_X3_init_34 rfl rfl (Nat.le_of_ble_eq_true rfl) ⟨by decide, by decide⟩ ?_
  refine z_putRF dX7_init_23 fl_X7_21 rfl rfl rfl rfl rfl ?_
  rw [z_rp_s (m := 37) (by decide +kernel) (by decide +kernel)]
  refine z_aload_n dX7_init_26 rfl rfl ?_
  refine z_bipush (v := nI 6) dX7_init_27 (by decide) ?_
  refine z_newI (N := 6) (rc' := 3) (rs' := 90) dX7_init_29 acI rfl rfl (z_rpn (by decide +kernel)) (by funext j; simp [z_up]) ⟨by decide, by decide⟩ ?_
  refine z_putRF dX7_init_31 fl_X7_25 rfl rfl rfl rfl rfl ?_
  rw [z_rp_s (m := 38) (by decide +kernel) (by decide +kernel)]
  refine z_aload_n dX7_init_34 rfl rfl ?_
  refine z_bipush (v := nI 30) dX7_init_35 (by decide) ?_
  refine z_newI (N := 30) (rc' := 2) (rs' := 60) dX7_init_37 acI rfl rfl (z_rpn (by decide +kernel)) (by funext j; simp [z_up]) ⟨by decide, by decide⟩ ?_
  refine z_putRF dX7_init_39 fl_X7_29 rfl rfl rfl rfl rfl ?_
  rw [z_rp_s (m := 39) (by decide +kernel) (by decide +kernel)]
  refine z_aload_n dX7_init_42 rfl rfl ?_
  refine z_bipush (v := nI 30) dX7_init_43 (by decide) ?_
  refine z_newI (N := 30) (rc' := 1) (rs' := 30) dX7_init_45 acI rfl rfl (z_rpn (by decide +kernel)) (by funext j; simp [z_up]) ⟨by decide, by decide⟩ ?_
  refine z_putRF dX7_init_47 fl_X7_32 rfl rfl rfl rfl rfl ?_
  rw [z_rp_s (m := 40) (by decide +kernel) (by decide +kernel)]
  refine z_aload_n dX7_init_50 rfl rfl ?_
  refine z_bipush (v := nI 30) dX7_init_51 (by decide) ?_
  refine z_newI (N := 30) (rc' := 0) (rs' := 0) dX7_init_53 acI rfl rfl (z_rpn (by decide +kernel)) (by funext j; simp [z_up]) ⟨by decide, by decide⟩ ?_
  refine z_putRF dX7_init_55 fl_X7_35 rfl rfl rfl rfl rfl ?_
  rw [z_rp_s (m := 41) (by decide +kernel) (by decide +kernel)]
  exact z_vret dX7_init_58 rfl rfl rfl
set_option maxRecDepth 100000 in
set_option maxHeartbeats 4000000 in
theorem ci_X9_init_45 {d : Nat} {τ : Nat → Nat → Int64} : z_MV M_X9_init d 4 144 [.ref 45] (46, z_rp 43, (z_up (fun _ _ => 0) 16 2 (-1)), τ) none (50, z_rp 47, (z_up (fun _ _ => 0) 16 2 (-1)), τ) := by
  refine z_MV.of pn_X9_init (Nat.le_of_ble_eq_true rfl) (by simp [Value.category]) rfl ?_
  show z_V _ _ _ _ _ _ _ _ _ [_] _ _
  refine z_aload_n dX9_init_0 rfl rfl ?_
  refine z_objInit dX9_init_1 ol_X9_3 (Nat.le_of_ble_eq_true rfl) ?_
  refine z_aload_n dX9_init_4 rfl rfl ?_
  refine z_bipush (v := nI 36) dX9_init_5 (by decide) ?_
  refine z_newI (N := 36) (rc' := 3) (rs' := 108) dX9_init_7 acI rfl rfl (z_rpn (by decide +kernel)) (by funext j; simp [z_up]) ⟨by decide, by decide⟩ ?_
  refine z_putRF dX9_init_9 fl_X9_9 rfl rfl rfl rfl rfl ?_
  rw [z_rp_s (m := 43) (by decide +kernel) (by decide +kernel)]
  refine z_aload_n dX9_init_12 rfl rfl ?_
  refine z_bipush (v := nI 36) dX9_init_13 (by decide) ?_
  refine z_newI (N := 36) (rc' := 2) (rs' := 72) dX9_init_15 acI rfl rfl (z_rpn (by decide +kernel)) (by funext j; simp [z_up]) ⟨by decide, by decide⟩ ?_
  refine z_putRF dX9_init_17 fl_X9_15 rfl rfl rfl rfl rfl ?_
  rw [z_rp_s (m := 44) (by decide +kernel) (by decide +kernel)]
  refine z_aload_n dX9_init_20 rfl rfl ?_
  refine z_bipush (v := nI 36) dX9_init_21 (by decide) ?_
  refine z_newI (N := 36) (rc' := 1) (rs' := 36) dX9_init_23 acI rfl rfl (z_rpn (by decide +kernel)) (by funext j; simp [z_up]) ⟨by decide, by decide⟩ ?_
  refine z_putRF dX9_init_25 fl_X9_18 rfl rfl rfl rfl rfl ?_
  rw [z_rp_s (m := 45) (by decide +kernel) (by decide +kernel)]
  refine z_aload_n dX9_init_28 rfl rfl ?_
  refine z_bipush (v := nI 36) dX9_init_29 (by decide) ?_
  refine z_newI (N := 36) (rc' := 0) (rs' := 0) dX9_init_31 acI rfl rfl (z_rpn (by decide +kernel)) (by funext j; simp [z_up]) ⟨by decide, by decide⟩ ?_
  refine z_putRF dX9_init_33 fl_X9_21 rfl rfl rfl rfl rfl ?_
  rw [z_rp_s (m := 46) (by decide +kernel) (by decide +kernel)]
  exact z_vret dX9_init_36 rfl rfl rfl
set_option maxRecDepth 100000 in
set_option maxHeartbeats 4000000 in
theorem ci_X3_init_50 {d : Nat} {τ : Nat → Nat → Int64} : z_MV M_X3_init d 5 240 [.ref 50] (51, z_rp 48, (z_up (fun _ _ => 0) 16 2 (-1)), τ) none (56, z_rp 53, (z_up (fun _ _ => 0) 16 2 (-1)), τ) := by
  refine z_MV.of pn_X3_init (Nat.le_of_ble_eq_true rfl) (by simp [Value.category]) rfl ?_
  show z_V _ _ _ _ _ _ _ _ _ [_] _ _
  refine z_aload_n dX3_init_0 rfl rfl ?_
  refine z_objInit dX3_init_1 ol_X3_3 (Nat.le_of_ble_eq_true rfl) ?_
  refine z_aload_n dX3_init_4 rfl rfl ?_
  refine z_bipush (v := nI 15) dX3_init_5 (by decide) ?_
  refine z_newI (N := 15) (rc' := 4) (rs' := 225) dX3_init_7 acI rfl rfl (z_rpn (by decide +kernel)) (by funext j; simp [z_up]) ⟨by decide, by decide⟩ ?_
  refine z_putRF dX3_init_9 fl_X3_9 rfl rfl rfl rfl rfl ?_
  rw [z_rp_s (m := 48) (by decide +kernel) (by decide +kernel)]
  refine z_aload_n dX3_init_12 rfl rfl ?_
  refine z_bipush (v := nI 15) dX3_init_13 (by decide) ?_
  refine z_newZ (N := 15) (rc' := 3) (rs' := 210) dX3_init_15 acZ rfl rfl (z_rpn (by decide +kernel)) (by funext j; simp [z_up]) ⟨by decide, by decide⟩ ?_
  refine z_putRF dX3_init_17 fl_X3_15 rfl rfl rfl rfl rfl ?_
  rw [z_rp_s (m := 49) (by decide +kernel) (by decide +kernel)]
  refine z_aload_n dX3_init_20 rfl rfl ?_
  refine z_bipush (v := nI 15) dX3_init_21 (by decide) ?_
  refine z_newI (N := 15) (rc' := 2) (rs' := 195) dX3_init_23 acI rfl rfl (z_rpn (by decide +kernel)) (by funext j; simp [z_up]) ⟨by decide, by decide⟩ ?_
  refine z_putRF dX3_init_25 fl_X3_19 rfl rfl rfl rfl rfl ?_
  rw [z_rp_s (m := 50) (by decide +kernel) (by decide +kernel)]
  refine z_aload_n dX3_init_28 rfl rfl ?_
  refine z_bipush (v := nI 15) dX3_init_29 (by decide) ?_
  refine z_newI (N := 15) (rc' := 1) (rs' := 180) dX3_init_31 acI rfl rfl (z_rpn (by decide +kernel)) (by funext j; simp [z_up]) ⟨by decide, by decide⟩ ?_
  refine z_putRF dX3_init_33 fl_X3_22 rfl rfl rfl rfl rfl ?_
  rw [z_rp_s (m := 51) (by decide +kernel) (by decide +kernel)]
  refine z_aload_n dX3_init_36 rfl rfl ?_
  refine z_sipush (v := nI 180) dX3_init_37 (by decide) ?_
  refine z_newI (N := 180) (rc' := 0) (rs' := 0) dX3_init_40 acI rfl rfl (z_rpn (by decide +kernel)) (by funext j; simp [z_up]) ⟨by decide, by decide⟩ ?_
  refine z_putRF dX3_init_42 fl_X3_25 rfl rfl rfl rfl rfl ?_
  rw [z_rp_s (m := 52) (by decide +kernel) (by decide +kernel)]
  exact z_vret dX3_init_45 rfl rfl rfl
set_option maxRecDepth 100000 in
set_option maxHeartbeats 4000000 in
theorem ci_X7_init_44 {d : Nat} {τ : Nat → Nat → Int64} : z_MV M_X7_init (d + 1) 15 491 [.ref 44] (45, z_rp 43, (z_up (fun _ _ => 0) 16 2 (-1)), τ) none (60, z_rp 58, (z_up (fun _ _ => 0) 16 2 (-1)), τ) := by
  refine z_MV.of pn_X7_init (Nat.le_of_ble_eq_true rfl) (by simp [Value.category]) rfl ?_
  show z_V _ _ _ _ _ _ _ _ _ [_] _ _
  refine z_aload_n dX7_init_0 rfl rfl ?_
  refine z_objInit dX7_init_1 ol_X7_3 (Nat.le_of_ble_eq_true rfl) ?_
  refine z_aload_n dX7_init_4 rfl rfl ?_
  refine z_new (ci := 9) (rc' := 14) (rs' := 486) dX7_init_5 (by decide) nl_X7_9 rfl (z_rpn (by decide +kernel)) (by funext j; simp [z_up]) ⟨by decide, by decide⟩ ?_
  refine z_dup dX7_init_8 rfl ?_
  refine z_callN (rc' := 10) (rs' := 342) dX7_init_9 ml_X7_11 ci_X9_init_45 rfl rfl (Nat.le_of_ble_eq_true rfl) ⟨by decide, by decide⟩ ?_
  refine z_putRF dX7_init_12 fl_X7_12 rfl rfl rfl rfl rfl ?_
  rw [z_rp_s (m := 47) (by decide +kernel) (by decide +kernel)]
  refine z_aload_n dX7_init_15 rfl rfl ?_
  refine z_new (ci := 3) (rc' := 9) (rs' := 336) dX7_init_16 (by decide) nl_X7_18 rfl (z_rpn (by decide +kernel)) (by funext j; simp [z_up]) ⟨by decide, by decide⟩ ?_
  refine z_dup dX7_init_19 rfl ?_
  refine z_callN (rc' := 4) (rs' := 96) dX7_init_20 ml_X7_20 ci_X3_init_50 rfl rfl (Nat.le_of_ble_eq_true rfl) ⟨by decide, by decide⟩ ?_
  refine z_putRF dX7_init_23 fl_X7_21 rfl rfl rfl rfl rfl ?_
  rw [z_rp_s (m := 53) (by decide +kernel) (by decide +kernel)]
  refine z_aload_n dX7_init_26 rfl rfl ?_
  refine z_bipush (v := nI 6) dX7_init_27 (by decide) ?_
  refine z_newI (N := 6) (rc' := 3) (rs' := 90) dX7_init_29 acI rfl rfl (z_rpn (by decide +kernel)) (by funext j; simp [z_up]) ⟨by decide, by decide⟩ ?_
  refine z_putRF dX7_init_31 fl_X7_25 rfl rfl rfl rfl rfl ?_
  rw [z_rp_s (m := 54) (by decide +kernel) (by decide +kernel)]
  refine z_aload_n dX7_init_34 rfl rfl ?_
  refine z_bipush (v := nI 30) dX7_init_35 (by decide) ?_
  refine z_newI (N := 30) (rc' := 2) (rs' := 60) dX7_init_37 acI rfl rfl (z_rpn (by decide +kernel)) (by funext j; simp [z_up]) ⟨by decide, by decide⟩ ?_
  refine z_putRF dX7_init_39 fl_X7_29 rfl rfl rfl rfl rfl ?_
  rw [z_rp_s (m := 55) (by decide +kernel) (by decide +kernel)]
  refine z_aload_n dX7_init_42 rfl rfl ?_
  refine z_bipush (v := nI 30) dX7_init_43 (by decide) ?_
  refine z_newI (N := 30) (rc' := 1) (rs' := 30) dX7_init_45 acI rfl rfl (z_rpn (by decide +kernel)) (by funext j; simp [z_up]) ⟨by decide, by decide⟩ ?_
  refine z_putRF dX7_init_47 fl_X7_32 rfl rfl rfl rfl rfl ?_
  rw [z_rp_s (m := 56) (by decide +kernel) (by decide +kernel)]
  refine z_aload_n dX7_init_50 rfl rfl ?_
  refine z_bipush (v := nI 30) dX7_init_51 (by decide) ?_
  refine z_newI (N := 30) (rc' := 0) (rs' := 0) dX7_init_53 acI rfl rfl (z_rpn (by decide +kernel)) (by funext j; simp [z_up]) ⟨by decide, by decide⟩ ?_
  refine z_putRF dX7_init_55 fl_X7_35 rfl rfl rfl rfl rfl ?_
  rw [z_rp_s (m := 57) (by decide +kernel) (by decide +kernel)]
  exact z_vret dX7_init_58 rfl rfl rfl
set_option maxRecDepth 100000 in
set_option maxHeartbeats 4000000 in
theorem ci_X9_init_61 {d : Nat} {τ : Nat → Nat → Int64} : z_MV M_X9_init d 4 144 [.ref 61] (62, z_rp 59, (z_up (fun _ _ => 0) 16 2 (-1)), τ) none (66, z_rp 63, (z_up (fun _ _ => 0) 16 2 (-1)), τ) := by
  refine z_MV.of pn_X9_init (Nat.le_of_ble_eq_true rfl) (by simp [Value.category]) rfl ?_
  show z_V _ _ _ _ _ _ _ _ _ [_] _ _
  refine z_aload_n dX9_init_0 rfl rfl ?_
  refine z_objInit dX9_init_1 ol_X9_3 (Nat.le_of_ble_eq_true rfl) ?_
  refine z_aload_n dX9_init_4 rfl rfl ?_
  refine z_bipush (v := nI 36) dX9_init_5 (by decide) ?_
  refine z_newI (N := 36) (rc' := 3) (rs' := 108) dX9_init_7 acI rfl rfl (z_rpn (by decide +kernel)) (by funext j; simp [z_up]) ⟨by decide, by decide⟩ ?_
  refine z_putRF dX9_init_9 fl_X9_9 rfl rfl rfl rfl rfl ?_
  rw [z_rp_s (m := 59) (by decide +kernel) (by decide +kernel)]
  refine z_aload_n dX9_init_12 rfl rfl ?_
  refine z_bipush (v := nI 36) dX9_init_13 (by decide) ?_
  refine z_newI (N := 36) (rc' := 2) (rs' := 72) dX9_init_15 acI rfl rfl (z_rpn (by decide +kernel)) (by funext j; simp [z_up]) ⟨by decide, by decide⟩ ?_
  refine z_putRF dX9_init_17 fl_X9_15 rfl rfl rfl rfl rfl ?_
  rw [z_rp_s (m := 60) (by decide +kernel) (by decide +kernel)]
  refine z_aload_n dX9_init_20 rfl rfl ?_
  refine z_bipush (v := nI 36) dX9_init_21 (by decide) ?_
  refine z_newI (N := 36) (rc' := 1) (rs' := 36) dX9_init_23 acI rfl rfl (z_rpn (by decide +kernel)) (by funext j; simp [z_up]) ⟨by decide, by decide⟩ ?_
  refine z_putRF dX9_init_25 fl_X9_18 rfl rfl rfl rfl rfl ?_
  rw [z_rp_s (m := 61) (by decide +kernel) (by decide +kernel)]
  refine z_aload_n dX9_init_28 rfl rfl ?_
  refine z_bipush (v := nI 36) dX9_init_29 (by decide) ?_
  refine z_newI (N := 36) (rc' := 0) (rs' := 0) dX9_init_31 acI rfl rfl (z_rpn (by decide +kernel)) (by funext j; simp [z_up]) ⟨by decide, by decide⟩ ?_
  refine z_putRF dX9_init_33 fl_X9_21 rfl rfl rfl rfl rfl ?_
  rw [z_rp_s (m := 62) (by decide +kernel) (by decide +kernel)]
  exact z_vret dX9_init_36 rfl rfl rfl
set_option maxRecDepth 100000 in
set_option maxHeartbeats 4000000 in
theorem ci_X3_init_66 {d : Nat} {τ : Nat → Nat → Int64} : z_MV M_X3_init d 5 240 [.ref 66] (67, z_rp 64, (z_up (fun _ _ => 0) 16 2 (-1)), τ) none (72, z_rp 69, (z_up (fun _ _ => 0) 16 2 (-1)), τ) := by
  refine z_MV.of pn_X3_init (Nat.le_of_ble_eq_true rfl) (by simp [Value.category]) rfl ?_
  show z_V _ _ _ _ _ _ _ _ _ [_] _ _
  refine z_aload_n dX3_init_0 rfl rfl ?_
  refine z_objInit dX3_init_1 ol_X3_3 (Nat.le_of_ble_eq_true rfl) ?_
  refine z_aload_n dX3_init_4 rfl rfl ?_
  refine z_bipush (v := nI 15) dX3_init_5 (by decide) ?_
  refine z_newI (N := 15) (rc' := 4) (rs' := 225) dX3_init_7 acI rfl rfl (z_rpn (by decide +kernel)) (by funext j; simp [z_up]) ⟨by decide, by decide⟩ ?_
  refine z_putRF dX3_init_9 fl_X3_9 rfl rfl rfl rfl rfl ?_
  rw [z_rp_s (m := 64) (by decide +kernel) (by decide +kernel)]
  refine z_aload_n dX3_init_12 rfl rfl ?_
  refine z_bipush (v := nI 15) dX3_init_13 (by decide) ?_
  refine z_newZ (N := 15) (rc' := 3) (rs' := 210) dX3_init_15 acZ rfl rfl (z_rpn (by decide +kernel)) (by funext j; simp [z_up]) ⟨by decide, by decide⟩ ?_
  refine z_putRF dX3_init_17 fl_X3_15 rfl rfl rfl rfl rfl ?_
  rw [z_rp_s (m := 65) (by decide +kernel) (by decide +kernel)]
  refine z_aload_n dX3_init_20 rfl rfl ?_
  refine z_bipush (v := nI 15) dX3_init_21 (by decide) ?_
  refine z_newI (N := 15) (rc' := 2) (rs' := 195) dX3_init_23 acI rfl rfl (z_rpn (by decide +kernel)) (by funext j; simp [z_up]) ⟨by decide, by decide⟩ ?_
  refine z_putRF dX3_init_25 fl_X3_19 rfl rfl rfl rfl rfl ?_
  rw [z_rp_s (m := 66) (by decide +kernel) (by decide +kernel)]
  refine z_aload_n dX3_init_28 rfl rfl ?_
  refine z_bipush (v := nI 15) dX3_init_29 (by decide) ?_
  refine z_newI (N := 15) (rc' := 1) (rs' := 180) dX3_init_31 acI rfl rfl (z_rpn (by decide +kernel)) (by funext j; simp [z_up]) ⟨by decide, by decide⟩ ?_
  refine z_putRF dX3_init_33 fl_X3_22 rfl rfl rfl rfl rfl ?_
  rw [z_rp_s (m := 67) (by decide +kernel) (by decide +kernel)]
  refine z_aload_n dX3_init_36 rfl rfl ?_
  refine z_sipush (v := nI 180) dX3_init_37 (by decide) ?_
  refine z_newI (N := 180) (rc' := 0) (rs' := 0) dX3_init_40 acI rfl rfl (z_rpn (by decide +kernel)) (by funext j; simp [z_up]) ⟨by decide, by decide⟩ ?_
  refine z_putRF dX3_init_42 fl_X3_25 rfl rfl rfl rfl rfl ?_
  rw [z_rp_s (m := 68) (by decide +kernel) (by decide +kernel)]
  exact z_vret dX3_init_45 rfl rfl rfl
set_option maxRecDepth 100000 in
set_option maxHeartbeats 4000000 in
theorem ci_X7_init_60 {d : Nat} {τ : Nat → Nat → Int64} : z_MV M_X7_init (d + 1) 15 491 [.ref 60] (61, z_rp 59, (z_up (fun _ _ => 0) 16 2 (-1)), τ) none (76, z_rp 74, (z_up (fun _ _ => 0) 16 2 (-1)), τ) := by
  refine z_MV.of pn_X7_init (Nat.le_of_ble_eq_true rfl) (by simp [Value.category]) rfl ?_
  show z_V _ _ _ _ _ _ _ _ _ [_] _ _
  refine z_aload_n dX7_init_0 rfl rfl ?_
  refine z_objInit dX7_init_1 ol_X7_3 (Nat.le_of_ble_eq_true rfl) ?_
  refine z_aload_n dX7_init_4 rfl rfl ?_
  refine z_new (ci := 9) (rc' := 14) (rs' := 486) dX7_init_5 (by decide) nl_X7_9 rfl (z_rpn (by decide +kernel)) (by funext j; simp [z_up]) ⟨by decide, by decide⟩ ?_
  refine z_dup dX7_init_8 rfl ?_
  refine z_callN (rc' := 10) (rs' := 342) dX7_init_9 ml_X7_11 ci_X9_init_61 rfl rfl (Nat.le_of_ble_eq_true rfl) ⟨by decide, by decide⟩ ?_
  refine z_putRF dX7_init_12 fl_X7_12 rfl rfl rfl rfl rfl ?_
  rw [z_rp_s (m := 63) (by decide +kernel) (by decide +kernel)]
  refine z_aload_n dX7_init_15 rfl rfl ?_
  refine z_new (ci := 3) (rc' := 9) (rs' := 336) dX7_init_16 (by decide) nl_X7_18 rfl (z_rpn (by decide +kernel)) (by funext j; simp [z_up]) ⟨by decide, by decide⟩ ?_
  refine z_dup dX7_init_19 rfl ?_
  refine z_callN (rc' := 4) (rs' := 96) dX7_init_20 ml_X7_20 ci_X3_init_66 rfl rfl (Nat.le_of_ble_eq_true rfl) ⟨by decide, by decide⟩ ?_
  refine z_putRF dX7_init_23 fl_X7_21 rfl rfl rfl rfl rfl ?_
  rw [z_rp_s (m := 69) (by decide +kernel) (by decide +kernel)]
  refine z_aload_n dX7_init_26 rfl rfl ?_
  refine z_bipush (v := nI 6) dX7_init_27 (by decide) ?_
  refine z_newI (N := 6) (rc' := 3) (rs' := 90) dX7_init_29 acI rfl rfl (z_rpn (by decide +kernel)) (by funext j; simp [z_up]) ⟨by decide, by decide⟩ ?_
  refine z_putRF dX7_init_31 fl_X7_25 rfl rfl rfl rfl rfl ?_
  rw [z_rp_s (m := 70) (by decide +kernel) (by decide +kernel)]
  refine z_aload_n dX7_init_34 rfl rfl ?_
  refine z_bipush (v := nI 30) dX7_init_35 (by decide) ?_
  refine z_newI (N := 30) (rc' := 2) (rs' := 60) dX7_init_37 acI rfl rfl (z_rpn (by decide +kernel)) (by funext j; simp [z_up]) ⟨by decide, by decide⟩ ?_
  refine z_putRF dX7_init_39 fl_X7_29 rfl rfl rfl rfl rfl ?_
  rw [z_rp_s (m := 71) (by decide +kernel) (by decide +kernel)]
  refine z_aload_n dX7_init_42 rfl rfl ?_
  refine z_bipush (v := nI 30) dX7_init_43 (by decide) ?_
  refine z_newI (N := 30) (rc' := 1) (rs' := 30) dX7_init_45 acI rfl rfl (z_rpn (by decide +kernel)) (by funext j; simp [z_up]) ⟨by decide, by decide⟩ ?_
  refine z_putRF dX7_init_47 fl_X7_32 rfl rfl rfl rfl rfl ?_
  rw [z_rp_s (m := 72) (by decide +kernel) (by decide +kernel)]
  refine z_aload_n dX7_init_50 rfl rfl ?_
  refine z_bipush (v := nI 30) dX7_init_51 (by decide) ?_
  refine z_newI (N := 30) (rc' := 0) (rs' := 0) dX7_init_53 acI rfl rfl (z_rpn (by decide +kernel)) (by funext j; simp [z_up]) ⟨by decide, by decide⟩ ?_
  refine z_putRF dX7_init_55 fl_X7_35 rfl rfl rfl rfl rfl ?_
  rw [z_rp_s (m := 73) (by decide +kernel) (by decide +kernel)]
  exact z_vret dX7_init_58 rfl rfl rfl
set_option maxRecDepth 100000 in
set_option maxHeartbeats 4000000 in
theorem ci_X9_init_77 {d : Nat} {τ : Nat → Nat → Int64} : z_MV M_X9_init d 4 144 [.ref 77] (78, z_rp 75, (z_up (fun _ _ => 0) 16 2 (-1)), τ) none (82, z_rp 79, (z_up (fun _ _ => 0) 16 2 (-1)), τ) := by
  refine z_MV.of pn_X9_init (Nat.le_of_ble_eq_true rfl) (by simp [Value.category]) rfl ?_
  show z_V _ _ _ _ _ _ _ _ _ [_] _ _
  refine z_aload_n dX9_init_0 rfl rfl ?_
  refine z_objInit dX9_init_1 ol_X9_3 (Nat.le_of_ble_eq_true rfl) ?_
  refine z_aload_n dX9_init_4 rfl rfl ?_
  refine z_bipush (v := nI 36) dX9_init_5 (by decide) ?_
  refine z_newI (N := 36) (rc' := 3) (rs' := 108) dX9_init_7 acI rfl rfl (z_rpn (by decide +kernel)) (by funext j; simp [z_up]) ⟨by decide, by decide⟩ ?_
  refine z_putRF dX9_init_9 fl_X9_9 rfl rfl rfl rfl rfl ?_
  rw [z_rp_s (m := 75) (by decide +kernel) (by decide +kernel)]
  refine z_aload_n dX9_init_12 rfl rfl ?_
  refine z_bipush (v := nI 36) dX9_init_13 (by decide) ?_
  refine z_newI (N := 36) (rc' := 2) (rs' := 72) dX9_init_15 acI rfl rfl (z_rpn (by decide +kernel)) (by funext j; simp [z_up]) ⟨by decide, by decide⟩ ?_
  refine z_putRF dX9_init_17 fl_X9_15 rfl rfl rfl rfl rfl ?_
  rw [z_rp_s (m := 76) (by decide +kernel) (by decide +kernel)]
  refine z_aload_n dX9_init_20 rfl rfl ?_
  refine z_bipush (v := nI 36) dX9_init_21 (by decide) ?_
  refine z_newI (N := 36) (rc' := 1) (rs' := 36) dX9_init_23 acI rfl rfl (z_rpn (by decide +kernel)) (by funext j; simp [z_up]) ⟨by decide, by decide⟩ ?_
  refine z_putRF dX9_init_25 fl_X9_18 rfl rfl rfl rfl rfl ?_
  rw [z_rp_s (m := 77) (by decide +kernel) (by decide +kernel)]
  refine z_aload_n dX9_init_28 rfl rfl ?_
  refine z_bipush (v := nI 36) dX9_init_29 (by decide) ?_
  refine z_newI (N := 36) (rc' := 0) (rs' := 0) dX9_init_31 acI rfl rfl (z_rpn (by decide +kernel)) (by funext j; simp [z_up]) ⟨by decide, by decide⟩ ?_
  refine z_putRF dX9_init_33 fl_X9_21 rfl rfl rfl rfl rfl ?_
  rw [z_rp_s (m := 78) (by decide +kernel) (by decide +kernel)]
  exact z_vret dX9_init_36 rfl rfl rfl
set_option maxRecDepth 100000 in
set_option maxHeartbeats 4000000 in
theorem ci_X3_init_82 {d : Nat} {τ : Nat → Nat → Int64} : z_MV M_X3_init d 5 240 [.ref 82] (83, z_rp 80, (z_up (fun _ _ => 0) 16 2 (-1)), τ) none (88, z_rp 85, (z_up (fun _ _ => 0) 16 2 (-1)), τ) := by
  refine z_MV.of pn_X3_init (Nat.le_of_ble_eq_true rfl) (by simp [Value.category]) rfl ?_
  show z_V _ _ _ _ _ _ _ _ _ [_] _ _
  refine z_aload_n dX3_init_0 rfl rfl ?_
  refine z_objInit dX3_init_1 ol_X3_3 (Nat.le_of_ble_eq_true rfl) ?_
  refine z_aload_n dX3_init_4 rfl rfl ?_
  refine z_bipush (v := nI 15) dX3_init_5 (by decide) ?_
  refine z_newI (N := 15) (rc' := 4) (rs' := 225) dX3_init_7 acI rfl rfl (z_rpn (by decide +kernel)) (by funext j; simp [z_up]) ⟨by decide, by decide⟩ ?_
  refine z_putRF dX3_init_9 fl_X3_9 rfl rfl rfl rfl rfl ?_
  rw [z_rp_s (m := 80) (by decide +kernel) (by decide +kernel)]
  refine z_aload_n dX3_init_12 rfl rfl ?_
  refine z_bipush (v := nI 15) dX3_init_13 (by decide) ?_
  refine z_newZ (N := 15) (rc' := 3) (rs' := 210) dX3_init_15 acZ rfl rfl (z_rpn (by decide +kernel)) (by funext j; simp [z_up]) ⟨by decide, by decide⟩ ?_
  refine z_putRF dX3_init_17 fl_X3_15 rfl rfl rfl rfl rfl ?_
  rw [z_rp_s (m := 81) (by decide +kernel) (by decide +kernel)]
  refine z_aload_n dX3_init_20 rfl rfl ?_
  refine z_bipush (v := nI 15) dX3_init_21 (by decide) ?_
  refine z_newI (N := 15) (rc' := 2) (rs' := 195) dX3_init_23 acI rfl rfl (z_rpn (by decide +kernel)) (by funext j; simp [z_up]) ⟨by decide, by decide⟩ ?_
  refine z_putRF dX3_init_25 fl_X3_19 rfl rfl rfl rfl rfl ?_
  rw [z_rp_s (m := 82) (by decide +kernel) (by decide +kernel)]
  refine z_aload_n dX3_init_28 rfl rfl ?_
  refine z_bipush (v := nI 15) dX3_init_29 (by decide) ?_
  refine z_newI (N := 15) (rc' := 1) (rs' := 180) dX3_init_31 acI rfl rfl (z_rpn (by decide +kernel)) (by funext j; simp [z_up]) ⟨by decide, by decide⟩ ?_
  refine z_putRF dX3_init_33 fl_X3_22 rfl rfl rfl rfl rfl ?_
  rw [z_rp_s (m := 83) (by decide +kernel) (by decide +kernel)]
  refine z_aload_n dX3_init_36 rfl rfl ?_
  refine z_sipush (v := nI 180) dX3_init_37 (by decide) ?_
  refine z_newI (N := 180) (rc' := 0) (rs' := 0) dX3_init_40 acI rfl rfl (z_rpn (by decide +kernel)) (by funext j; simp [z_up]) ⟨by decide, by decide⟩ ?_
  refine z_putRF dX3_init_42 fl_X3_25 rfl rfl rfl rfl rfl ?_
  rw [z_rp_s (m := 84) (by decide +kernel) (by decide +kernel)]
  exact z_vret dX3_init_45 rfl rfl rfl
set_option maxRecDepth 100000 in
set_option maxHeartbeats 4000000 in
theorem ci_X7_init_76 {d : Nat} {τ : Nat → Nat → Int64} : z_MV M_X7_init (d + 1) 15 491 [.ref 76] (77, z_rp 75, (z_up (fun _ _ => 0) 16 2 (-1)), τ) none (92, z_rp 90, (z_up (fun _ _ => 0) 16 2 (-1)), τ) := by
  refine z_MV.of pn_X7_init (Nat.le_of_ble_eq_true rfl) (by simp [Value.category]) rfl ?_
  show z_V _ _ _ _ _ _ _ _ _ [_] _ _
  refine z_aload_n dX7_init_0 rfl rfl ?_
  refine z_objInit dX7_init_1 ol_X7_3 (Nat.le_of_ble_eq_true rfl) ?_
  refine z_aload_n dX7_init_4 rfl rfl ?_
  refine z_new (ci := 9) (rc' := 14) (rs' := 486) dX7_init_5 (by decide) nl_X7_9 rfl (z_rpn (by decide +kernel)) (by funext j; simp [z_up]) ⟨by decide, by decide⟩ ?_
  refine z_dup dX7_init_8 rfl ?_
  refine z_callN (rc' := 10) (rs' := 342) dX7_init_9 ml_X7_11 ci_X9_init_77 rfl rfl (Nat.le_of_ble_eq_true rfl) ⟨by decide, by decide⟩ ?_
  refine z_putRF dX7_init_12 fl_X7_12 rfl rfl rfl rfl rfl ?_
  rw [z_rp_s (m := 79) (by decide +kernel) (by decide +kernel)]
  refine z_aload_n dX7_init_15 rfl rfl ?_
  refine z_new (ci := 3) (rc' := 9) (rs' := 336) dX7_init_16 (by decide) nl_X7_18 rfl (z_rpn (by decide +kernel)) (by funext j; simp [z_up]) ⟨by decide, by decide⟩ ?_
  refine z_dup dX7_init_19 rfl ?_
  refine z_callN (rc' := 4) (rs' := 96) dX7_init_20 ml_X7_20 ci_X3_init_82 rfl rfl (Nat.le_of_ble_eq_true rfl) ⟨by decide, by decide⟩ ?_
  refine z_putRF dX7_init_23 fl_X7_21 rfl rfl rfl rfl rfl ?_
  rw [z_rp_s (m := 85) (by decide +kernel) (by decide +kernel)]
  refine z_aload_n dX7_init_26 rfl rfl ?_
  refine z_bipush (v := nI 6) dX7_init_27 (by decide) ?_
  refine z_newI (N := 6) (rc' := 3) (rs' := 90) dX7_init_29 acI rfl rfl (z_rpn (by decide +kernel)) (by funext j; simp [z_up]) ⟨by decide, by decide⟩ ?_
  refine z_putRF dX7_init_31 fl_X7_25 rfl rfl rfl rfl rfl ?_
  rw [z_rp_s (m := 86) (by decide +kernel) (by decide +kernel)]
  refine z_aload_n dX7_init_34 rfl rfl ?_
  refine z_bipush (v := nI 30) dX7_init_35 (by decide) ?_
  refine z_newI (N := 30) (rc' := 2) (rs' := 60) dX7_init_37 acI rfl rfl (z_rpn (by decide +kernel)) (by funext j; simp [z_up]) ⟨by decide, by decide⟩ ?_
  refine z_putRF dX7_init_39 fl_X7_29 rfl rfl rfl rfl rfl ?_
  rw [z_rp_s (m := 87) (by decide +kernel) (by decide +kernel)]
  refine z_aload_n dX7_init_42 rfl rfl ?_
  refine z_bipush (v := nI 30) dX7_init_43 (by decide) ?_
  refine z_newI (N := 30) (rc' := 1) (rs' := 30) dX7_init_45 acI rfl rfl (z_rpn (by decide +kernel)) (by funext j; simp [z_up]) ⟨by decide, by decide⟩ ?_
  refine z_putRF dX7_init_47 fl_X7_32 rfl rfl rfl rfl rfl ?_
  rw [z_rp_s (m := 88) (by decide +kernel) (by decide +kernel)]
  refine z_aload_n dX7_init_50 rfl rfl ?_
  refine z_bipush (v := nI 30) dX7_init_51 (by decide) ?_
  refine z_newI (N := 30) (rc' := 0) (rs' := 0) dX7_init_53 acI rfl rfl (z_rpn (by decide +kernel)) (by funext j; simp [z_up]) ⟨by decide, by decide⟩ ?_
  refine z_putRF dX7_init_55 fl_X7_35 rfl rfl rfl rfl rfl ?_
  rw [z_rp_s (m := 89) (by decide +kernel) (by decide +kernel)]
  exact z_vret dX7_init_58 rfl rfl rfl
set_option maxRecDepth 100000 in
set_option maxHeartbeats 4000000 in
theorem ci_X10_init_0 {d : Nat} {τ : Nat → Nat → Int64} : z_MV M_X10_init (d + 2) 91 2568 [.ref 0] (1, z_rp 0, (fun _ _ => 0), τ) none (92, z_rp 91, (z_up (z_up (fun _ _ => 0) 16 2 (-1)) 0 12 (-1)), τ) := by
  refine z_MV.of pn_X10_init (Nat.le_of_ble_eq_true rfl) (by simp [Value.category]) rfl ?_
  show z_V _ _ _ _ _ _ _ _ _ [_, _] _ _
  refine z_aload_n dX10_init_0 rfl rfl ?_
  refine z_objInit dX10_init_1 ol_X10_3 (Nat.le_of_ble_eq_true rfl) ?_
  refine z_aload_n dX10_init_4 rfl rfl ?_
  refine z_new (ci := 0) (rc' := 90) (rs' := 2562) dX10_init_5 (by decide) nl_X10_9 rfl (z_rpn (by decide +kernel)) (by funext j; simp [z_up]) ⟨by decide, by decide⟩ ?_
  refine z_dup dX10_init_8 rfl ?_
  refine z_callN (rc' := 86) (rs' := 2402) dX10_init_9 ml_X10_11 ci_X0_init_1 rfl rfl (Nat.le_of_ble_eq_true rfl) ⟨by decide, by decide⟩ ?_
  refine z_putRF dX10_init_12 fl_X10_12 rfl rfl rfl rfl rfl ?_
  rw [z_rp_s (m := 4) (by decide +kernel) (by decide +kernel)]
  refine z_aload_n dX10_init_15 rfl rfl ?_
  refine z_new (ci := 1) (rc' := 85) (rs' := 2398) dX10_init_16 (by decide) nl_X10_16 rfl (z_rpn (by decide +kernel)) (by funext j; simp [z_up]) ⟨by decide, by decide⟩ ?_
  refine z_dup dX10_init_19 rfl ?_
  refine z_callN (rc' := 83) (rs' := 2386) dX10_init_20 ml_X10_18 ci_X1_init_6 rfl rfl (Nat.le_of_ble_eq_true rfl) ⟨by decide, by decide⟩ ?_
  refine z_putRF dX10_init_23 fl_X10_19 rfl rfl rfl rfl rfl ?_
  rw [z_rp_s (m := 7) (by decide +kernel) (by decide +kernel)]
  refine z_aload_n dX10_init_26 rfl rfl ?_
  refine z_new (ci := 2) (rc' := 82) (rs' := 2383) dX10_init_27 (by decide) nl_X10_23 rfl (z_rpn (by decide +kernel)) (by funext j; simp [z_up]) ⟨by decide, by decide⟩ ?_
  refine z_dup dX10_init_30 rfl ?_
  refine z_callN (rc' := 81) (rs' := 2353) dX10_init_31 ml_X10_25 ci_X2_init_9 rfl rfl (Nat.le_of_ble_eq_true rfl) ⟨by decide, by decide⟩ ?_
  refine z_putRF dX10_init_34 fl_X10_26 rfl rfl rfl rfl rfl ?_
  rw [z_rp_s (m := 9) (by decide +kernel) (by decide +kernel)]
  refine z_aload_n dX10_init_37 rfl rfl ?_
  refine z_new (ci := 6) (rc' := 80) (rs' := 2349) dX10_init_38 (by decide) nl_X10_30 rfl (z_rpn (by decide +kernel)) (by funext j; simp [z_up]) ⟨by decide, by decide⟩ ?_
  refine z_dup dX10_init_41 rfl ?_
  refine z_callN (rc' := 80) (rs' := 2349) dX10_init_42 ml_X10_32 ci_X6_init_11 rfl rfl (Nat.le_of_ble_eq_true rfl) ⟨by decide, by decide⟩ ?_
  refine z_putRF dX10_init_45 fl_X10_33 rfl rfl rfl rfl rfl ?_
  rw [z_rp_s (m := 10) (by decide +kernel) (by decide +kernel)]
  refine z_aload_n dX10_init_48 rfl rfl ?_
  refine z_new (ci := 4) (rc' := 79) (rs' := 2346) dX10_init_49 (by decide) nl_X10_37 rfl (z_rpn (by decide +kernel)) (by funext j; simp [z_up]) ⟨by decide, by decide⟩ ?_
  refine z_dup dX10_init_52 rfl ?_
  refine z_callN (rc' := 76) (rs' := 2226) dX10_init_53 ml_X10_39 ci_X4_init_12 rfl rfl (Nat.le_of_ble_eq_true rfl) ⟨by decide, by decide⟩ ?_
  refine z_putRF dX10_init_56 fl_X10_40 rfl rfl rfl rfl rfl ?_
  rw [z_rp_s (m := 14) (by decide +kernel) (by decide +kernel)]
  refine z_aload_n dX10_init_59 rfl rfl ?_
  refine z_new (ci := 5) (rc' := 75) (rs' := 2222) dX10_init_60 (by decide) nl_X10_44 rfl (z_rpn (by decide +kernel)) (by funext j; simp [z_up]) ⟨by decide, by decide⟩ ?_
  refine z_dup dX10_init_63 rfl ?_
  refine z_callN (rc' := 73) (rs' := 2162) dX10_init_64 ml_X10_46 ci_X5_init_16 rfl rfl (Nat.le_of_ble_eq_true rfl) ⟨by decide, by decide⟩ ?_
  refine z_putRF dX10_init_67 fl_X10_47 rfl rfl rfl rfl rfl ?_
  rw [z_rp_s (m := 17) (by decide +kernel) (by decide +kernel)]
  refine z_aload_n dX10_init_70 rfl rfl ?_
  refine z_new (ci := 8) (rc' := 72) (rs' := 2156) dX10_init_71 (by decide) nl_X10_51 rfl (z_rpn (by decide +kernel)) (by funext j; simp [z_up]) ⟨by decide, by decide⟩ ?_
  refine z_dup dX10_init_74 rfl ?_
  refine z_callN (rc' := 65) (rs' := 2008) dX10_init_75 ml_X10_53 ci_X8_init_19 rfl rfl (Nat.le_of_ble_eq_true rfl) ⟨by decide, by decide⟩ ?_
  refine z_putRF dX10_init_78 fl_X10_54 rfl rfl rfl rfl rfl ?_
  rw [z_rp_s (m := 25) (by decide +kernel) (by decide +kernel)]
  refine z_aload_n dX10_init_81 rfl rfl ?_
  refine z_iconst (v := nI 4) dX10_init_82 (by decide) ?_
  refine z_newQ (N := 4) (rc' := 64) (rs' := 2004) dX10_init_83 (nl_X10_58 _ List.mem_cons_self) rfl rfl (z_rpn (by decide +kernel)) ⟨by decide, by decide⟩ ?_
  refine z_putRF dX10_init_86 fl_X10_60 rfl rfl rfl rfl rfl ?_
  rw [z_rp_s (m := 26) (by decide +kernel) (by decide +kernel)]
  refine z_iconst (v := nI 0) dX10_init_89 (by decide) ?_
  refine z_istore_n dX10_init_90 rfl (by decide) ?_
  show z_V _ _ _ _ _ _ _ _ _ [_, _] _ _
  refine z_iload_n dX10_init_91 rfl rfl ?_
  refine z_iconst (v := nI 4) dX10_init_92 (by decide) ?_
  refine z_icmp_ge (tgt := 115) dX10_init_93 (by decide) (fun c_ => absurd c_ (by decide)) (fun _ => ?_)
  refine z_aload_n dX10_init_96 rfl rfl ?_
  refine z_getR dX10_init_97 fl_X10_60 rfl rfl (show _ = some 27 by decide +kernel) ?_
  refine z_iload_n dX10_init_100 rfl rfl ?_
  refine z_new (ci := 7) (rc' := 63) (rs' := 1994) dX10_init_101 (by decide) nl_X10_58 rfl (z_rpn (by decide +kernel)) (by funext j; simp [z_up]) ⟨by decide, by decide⟩ ?_
  refine z_dup dX10_init_104 rfl ?_
  refine z_callN (rc' := 48) (rs' := 1503) dX10_init_105 ml_X10_64 ci_X7_init_28 rfl rfl (Nat.le_of_ble_eq_true rfl) ⟨by decide, by decide⟩ ?_
  refine z_aast (j := 0) (ci := 7) dX10_init_108 rfl rfl (by decide) rfl ?_
  rw [z_rp_s (m := 42) (by decide +kernel) (by decide +kernel)]
  refine z_iinc (z := nI 1) dX10_init_109 rfl (by decide) (by decide) ?_
  show z_V _ _ _ _ _ _ _ _ _ [_, _] _ _
  refine z_goto (tgt := 91) dX10_init_112 (by decide) ?_
  refine z_iload_n dX10_init_91 rfl rfl ?_
  refine z_iconst (v := nI 4) dX10_init_92 (by decide) ?_
  refine z_icmp_ge (tgt := 115) dX10_init_93 (by decide) (fun c_ => absurd c_ (by decide)) (fun _ => ?_)
  refine z_aload_n dX10_init_96 rfl rfl ?_
  refine z_getR dX10_init_97 fl_X10_60 rfl rfl (show _ = some 27 by decide +kernel) ?_
  refine z_iload_n dX10_init_100 rfl rfl ?_
  refine z_new (ci := 7) (rc' := 47) (rs' := 1493) dX10_init_101 (by decide) nl_X10_58 rfl (z_rpn (by decide +kernel)) (by funext j; simp [z_up]) ⟨by decide, by decide⟩ ?_
  refine z_dup dX10_init_104 rfl ?_
  refine z_callN (rc' := 32) (rs' := 1002) dX10_init_105 ml_X10_64 ci_X7_init_44 rfl rfl (Nat.le_of_ble_eq_true rfl) ⟨by decide, by decide⟩ ?_
  refine z_aast (j := 1) (ci := 7) dX10_init_108 rfl rfl (by decide) rfl ?_
  rw [z_rp_s (m := 58) (by decide +kernel) (by decide +kernel)]
  refine z_iinc (z := nI 2) dX10_init_109 rfl (by decide) (by decide) ?_
  show z_V _ _ _ _ _ _ _ _ _ [_, _] _ _
  refine z_goto (tgt := 91) dX10_init_112 (by decide) ?_
  refine z_iload_n dX10_init_91 rfl rfl ?_
  refine z_iconst (v := nI 4) dX10_init_92 (by decide) ?_
  refine z_icmp_ge (tgt := 115) dX10_init_93 (by decide) (fun c_ => absurd c_ (by decide)) (fun _ => ?_)
  refine z_aload_n dX10_init_96 rfl rfl ?_
  refine z_getR dX10_init_97 fl_X10_60 rfl rfl (show _ = some 27 by decide +kernel) ?_
  refine z_iload_n dX10_init_100 rfl rfl ?_
  refine z_new (ci := 7) (rc' := 31) (rs' := 992) dX10_init_101 (by decide) nl_X10_58 rfl (z_rpn (by decide +kernel)) (by funext j; simp [z_up]) ⟨by decide, by decide⟩ ?_
  refine z_dup dX10_init_104 rfl ?_
  refine z_callN (rc' := 16) (rs' := 501) dX10_init_105 ml_X10_64 ci_X7_init_60 rfl rfl (Nat.le_of_ble_eq_true rfl) ⟨by decide, by decide⟩ ?_
  refine z_aast (j := 2) (ci := 7) dX10_init_108 rfl rfl (by decide) rfl ?_
  rw [z_rp_s (m := 74) (by decide +kernel) (by decide +kernel)]
  refine z_iinc (z := nI 3) dX10_init_109 rfl (by decide) (by decide) ?_
  show z_V _ _ _ _ _ _ _ _ _ [_, _] _ _
  refine z_goto (tgt := 91) dX10_init_112 (by decide) ?_
  refine z_iload_n dX10_init_91 rfl rfl ?_
  refine z_iconst (v := nI 4) dX10_init_92 (by decide) ?_
  refine z_icmp_ge (tgt := 115) dX10_init_93 (by decide) (fun c_ => absurd c_ (by decide)) (fun _ => ?_)
  refine z_aload_n dX10_init_96 rfl rfl ?_
  refine z_getR dX10_init_97 fl_X10_60 rfl rfl (show _ = some 27 by decide +kernel) ?_
  refine z_iload_n dX10_init_100 rfl rfl ?_
  refine z_new (ci := 7) (rc' := 15) (rs' := 491) dX10_init_101 (by decide) nl_X10_58 rfl (z_rpn (by decide +kernel)) (by funext j; simp [z_up]) ⟨by decide, by decide⟩ ?_
  refine z_dup dX10_init_104 rfl ?_
  refine z_callN (rc' := 0) (rs' := 0) dX10_init_105 ml_X10_64 ci_X7_init_76 rfl rfl (Nat.le_of_ble_eq_true rfl) ⟨by decide, by decide⟩ ?_
  refine z_aast (j := 3) (ci := 7) dX10_init_108 rfl rfl (by decide) rfl ?_
  rw [z_rp_s (m := 90) (by decide +kernel) (by decide +kernel)]
  refine z_iinc (z := nI 4) dX10_init_109 rfl (by decide) (by decide) ?_
  show z_V _ _ _ _ _ _ _ _ _ [_, _] _ _
  refine z_goto (tgt := 91) dX10_init_112 (by decide) ?_
  refine z_iload_n dX10_init_91 rfl rfl ?_
  refine z_iconst (v := nI 4) dX10_init_92 (by decide) ?_
  refine z_icmp_ge (tgt := 115) dX10_init_93 (by decide) (fun _ => ?_) (fun c_ => absurd (by decide) c_)
  refine z_aload_n dX10_init_115 rfl rfl ?_
  refine z_iconst (v := (-1)) dX10_init_116 (by decide) ?_
  refine z_putI dX10_init_117 fl_X10_65 rfl rfl (Or.inl rfl) rfl ?_
  exact z_vret dX10_init_120 rfl rfl rfl
set_option maxRecDepth 100000 in
set_option maxHeartbeats 4000000 in
theorem ci_X11_init_92 {d : Nat} {τ : Nat → Nat → Int64} : z_MV M_X11_init d 30 1016 [.ref 92] (93, z_rp 91, (z_up (z_up (fun _ _ => 0) 16 2 (-1)) 0 12 (-1)), τ) none (123, z_rp 121, (z_up (z_up (z_up (z_up (z_up (fun _ _ => 0) 16 2 (-1)) 0 12 (-1)) 92 7 (-1)) 92 15 (-1)) 92 20 (-1)), τ) := by
  refine z_MV.of pn_X11_init (Nat.le_of_ble_eq_true rfl) (by simp [Value.category]) rfl ?_
  show z_V _ _ _ _ _ _ _ _ _ [_] _ _
  refine z_aload_n dX11_init_0 rfl rfl ?_
  refine z_objInit dX11_init_1 ol_X11_1 (Nat.le_of_ble_eq_true rfl) ?_
  refine z_aload_n dX11_init_4 rfl rfl ?_
  refine z_bipush (v := nI 40) dX11_init_5 (by decide) ?_
  refine z_newI (N := 40) (rc' := 29) (rs' := 976) dX11_init_7 acI rfl rfl (z_rpn (by decide +kernel)) (by funext j; simp [z_up]) ⟨by decide, by decide⟩ ?_
  refine z_putRF dX11_init_9 fl_X11_7 rfl rfl rfl rfl rfl ?_
  rw [z_rp_s (m := 91) (by decide +kernel) (by decide +kernel)]
  refine z_aload_n dX11_init_12 rfl rfl ?_
  refine z_bipush (v := nI 40) dX11_init_13 (by decide) ?_
  refine z_newI (N := 40) (rc' := 28) (rs' := 936) dX11_init_15 acI rfl rfl (z_rpn (by decide +kernel)) (by funext j; simp [z_up]) ⟨by decide, by decide⟩ ?_
  refine z_putRF dX11_init_17 fl_X11_13 rfl rfl rfl rfl rfl ?_
  rw [z_rp_s (m := 92) (by decide +kernel) (by decide +kernel)]
  refine z_aload_n dX11_init_20 rfl rfl ?_
  refine z_bipush (v := nI 40) dX11_init_21 (by decide) ?_
  refine z_newI (N := 40) (rc' := 27) (rs' := 896) dX11_init_23 acI rfl rfl (z_rpn (by decide +kernel)) (by funext j; simp [z_up]) ⟨by decide, by decide⟩ ?_
  refine z_putRF dX11_init_25 fl_X11_16 rfl rfl rfl rfl rfl ?_
  rw [z_rp_s (m := 93) (by decide +kernel) (by decide +kernel)]
  refine z_aload_n dX11_init_28 rfl rfl ?_
  refine z_iconst (v := (-1)) dX11_init_29 (by decide) ?_
  refine z_putI dX11_init_30 fl_X11_19 rfl rfl (Or.inl rfl) rfl ?_
  refine z_aload_n dX11_init_33 rfl rfl ?_
  refine z_bipush (v := nI 6) dX11_init_34 (by decide) ?_
  refine z_newI (N := 6) (rc' := 26) (rs' := 890) dX11_init_36 acI rfl rfl (z_rpn (by decide +kernel)) (by funext j; simp [z_up]) ⟨by decide, by decide⟩ ?_
  refine z_putRF dX11_init_38 fl_X11_23 rfl rfl rfl rfl rfl ?_
  rw [z_rp_s (m := 94) (by decide +kernel) (by decide +kernel)]
  refine z_aload_n dX11_init_41 rfl rfl ?_
  refine z_bipush (v := nI 8) dX11_init_42 (by decide) ?_
  refine z_newI (N := 8) (rc' := 25) (rs' := 882) dX11_init_44 acI rfl rfl (z_rpn (by decide +kernel)) (by funext j; simp [z_up]) ⟨by decide, by decide⟩ ?_
  refine z_putRF dX11_init_46 fl_X11_26 rfl rfl rfl rfl rfl ?_
  rw [z_rp_s (m := 95) (by decide +kernel) (by decide +kernel)]
  refine z_aload_n dX11_init_49 rfl rfl ?_
  refine z_bipush (v := nI 30) dX11_init_50 (by decide) ?_
  refine z_newI (N := 30) (rc' := 24) (rs' := 852) dX11_init_52 acI rfl rfl (z_rpn (by decide +kernel)) (by funext j; simp [z_up]) ⟨by decide, by decide⟩ ?_
  refine z_putRF dX11_init_54 fl_X11_29 rfl rfl rfl rfl rfl ?_
  rw [z_rp_s (m := 96) (by decide +kernel) (by decide +kernel)]
  refine z_aload_n dX11_init_57 rfl rfl ?_
  refine z_bipush (v := nI 40) dX11_init_58 (by decide) ?_
  refine z_newI (N := 40) (rc' := 23) (rs' := 812) dX11_init_60 acI rfl rfl (z_rpn (by decide +kernel)) (by funext j; simp [z_up]) ⟨by decide, by decide⟩ ?_
  refine z_putRF dX11_init_62 fl_X11_32 rfl rfl rfl rfl rfl ?_
  rw [z_rp_s (m := 97) (by decide +kernel) (by decide +kernel)]
  refine z_aload_n dX11_init_65 rfl rfl ?_
  refine z_bipush (v := nI 40) dX11_init_66 (by decide) ?_
  refine z_newI (N := 40) (rc' := 22) (rs' := 772) dX11_init_68 acI rfl rfl (z_rpn (by decide +kernel)) (by funext j; simp [z_up]) ⟨by decide, by decide⟩ ?_
  refine z_putRF dX11_init_70 fl_X11_35 rfl rfl rfl rfl rfl ?_
  rw [z_rp_s (m := 98) (by decide +kernel) (by decide +kernel)]
  refine z_aload_n dX11_init_73 rfl rfl ?_
  refine z_iconst (v := (-1)) dX11_init_74 (by decide) ?_
  refine z_putI dX11_init_75 fl_X11_38 rfl rfl (Or.inl rfl) rfl ?_
  refine z_aload_n dX11_init_78 rfl rfl ?_
  refine z_bipush (v := nI 30) dX11_init_79 (by decide) ?_
  refine z_newI (N := 30) (rc' := 21) (rs' := 742) dX11_init_81 acI rfl rfl (z_rpn (by decide +kernel)) (by funext j; simp [z_up]) ⟨by decide, by decide⟩ ?_
  refine z_putRF dX11_init_83 fl_X11_41 rfl rfl rfl rfl rfl ?_
  rw [z_rp_s (m := 99) (by decide +kernel) (by decide +kernel)]
  refine z_aload_n dX11_init_86 rfl rfl ?_
  refine z_bipush (v := nI 30) dX11_init_87 (by decide) ?_
  refine z_newZ (N := 30) (rc' := 20) (rs' := 712) dX11_init_89 acZ rfl rfl (z_rpn (by decide +kernel)) (by funext j; simp [z_up]) ⟨by decide, by decide⟩ ?_
  refine z_putRF dX11_init_91 fl_X11_44 rfl rfl rfl rfl rfl ?_
  rw [z_rp_s (m := 100) (by decide +kernel) (by decide +kernel)]
  refine z_aload_n dX11_init_94 rfl rfl ?_
  refine z_iconst (v := (-1)) dX11_init_95 (by decide) ?_
  refine z_putI dX11_init_96 fl_X11_48 rfl rfl (Or.inl rfl) rfl ?_
  refine z_aload_n dX11_init_99 rfl rfl ?_
  refine z_iconst (v := nI 4) dX11_init_100 (by decide) ?_
  refine z_newI (N := 4) (rc' := 19) (rs' := 708) dX11_init_101 acI rfl rfl (z_rpn (by decide +kernel)) (by funext j; simp [z_up]) ⟨by decide, by decide⟩ ?_
  refine z_putRF dX11_init_103 fl_X11_51 rfl rfl rfl rfl rfl ?_
  rw [z_rp_s (m := 101) (by decide +kernel) (by decide +kernel)]
  refine z_aload_n dX11_init_106 rfl rfl ?_
  refine z_iconst (v := nI 4) dX11_init_107 (by decide) ?_
  refine z_newI (N := 4) (rc' := 18) (rs' := 704) dX11_init_108 acI rfl rfl (z_rpn (by decide +kernel)) (by funext j; simp [z_up]) ⟨by decide, by decide⟩ ?_
  refine z_putRF dX11_init_110 fl_X11_54 rfl rfl rfl rfl rfl ?_
  rw [z_rp_s (m := 102) (by decide +kernel) (by decide +kernel)]
  refine z_aload_n dX11_init_113 rfl rfl ?_
  refine z_bipush (v := nI 120) dX11_init_114 (by decide) ?_
  refine z_newI (N := 120) (rc' := 17) (rs' := 584) dX11_init_116 acI rfl rfl (z_rpn (by decide +kernel)) (by funext j; simp [z_up]) ⟨by decide, by decide⟩ ?_
  refine z_putRF dX11_init_118 fl_X11_57 rfl rfl rfl rfl rfl ?_
  rw [z_rp_s (m := 103) (by decide +kernel) (by decide +kernel)]
  refine z_aload_n dX11_init_121 rfl rfl ?_
  refine z_bipush (v := nI 120) dX11_init_122 (by decide) ?_
  refine z_newZ (N := 120) (rc' := 16) (rs' := 464) dX11_init_124 acZ rfl rfl (z_rpn (by decide +kernel)) (by funext j; simp [z_up]) ⟨by decide, by decide⟩ ?_
  refine z_putRF dX11_init_126 fl_X11_60 rfl rfl rfl rfl rfl ?_
  rw [z_rp_s (m := 104) (by decide +kernel) (by decide +kernel)]
  refine z_aload_n dX11_init_129 rfl rfl ?_
  refine z_bipush (v := nI 120) dX11_init_130 (by decide) ?_
  refine z_newI (N := 120) (rc' := 15) (rs' := 344) dX11_init_132 acI rfl rfl (z_rpn (by decide +kernel)) (by funext j; simp [z_up]) ⟨by decide, by decide⟩ ?_
  refine z_putRF dX11_init_134 fl_X11_63 rfl rfl rfl rfl rfl ?_
  rw [z_rp_s (m := 105) (by decide +kernel) (by decide +kernel)]
  refine z_aload_n dX11_init_137 rfl rfl ?_
  refine z_iconst (v := nI 4) dX11_init_138 (by decide) ?_
  refine z_newI (N := 4) (rc' := 14) (rs' := 340) dX11_init_139 acI rfl rfl (z_rpn (by decide +kernel)) (by funext j; simp [z_up]) ⟨by decide, by decide⟩ ?_
  refine z_putRF dX11_init_141 fl_X11_66 rfl rfl rfl rfl rfl ?_
  rw [z_rp_s (m := 106) (by decide +kernel) (by decide +kernel)]
  refine z_aload_n dX11_init_144 rfl rfl ?_
  refine z_iconst (v := nI 4) dX11_init_145 (by decide) ?_
  refine z_newI (N := 4) (rc' := 13) (rs' := 336) dX11_init_146 acI rfl rfl (z_rpn (by decide +kernel)) (by funext j; simp [z_up]) ⟨by decide, by decide⟩ ?_
  refine z_putRF dX11_init_148 fl_X11_69 rfl rfl rfl rfl rfl ?_
  rw [z_rp_s (m := 107) (by decide +kernel) (by decide +kernel)]
  refine z_aload_n dX11_init_151 rfl rfl ?_
  refine z_iconst (v := nI 4) dX11_init_152 (by decide) ?_
  refine z_newI (N := 4) (rc' := 12) (rs' := 332) dX11_init_153 acI rfl rfl (z_rpn (by decide +kernel)) (by funext j; simp [z_up]) ⟨by decide, by decide⟩ ?_
  refine z_putRF dX11_init_155 fl_X11_72 rfl rfl rfl rfl rfl ?_
  rw [z_rp_s (m := 108) (by decide +kernel) (by decide +kernel)]
  refine z_aload_n dX11_init_158 rfl rfl ?_
  refine z_iconst (v := nI 4) dX11_init_159 (by decide) ?_
  refine z_newI (N := 4) (rc' := 11) (rs' := 328) dX11_init_160 acI rfl rfl (z_rpn (by decide +kernel)) (by funext j; simp [z_up]) ⟨by decide, by decide⟩ ?_
  refine z_putRF dX11_init_162 fl_X11_75 rfl rfl rfl rfl rfl ?_
  rw [z_rp_s (m := 109) (by decide +kernel) (by decide +kernel)]
  refine z_aload_n dX11_init_165 rfl rfl ?_
  refine z_iconst (v := nI 4) dX11_init_166 (by decide) ?_
  refine z_newI (N := 4) (rc' := 10) (rs' := 324) dX11_init_167 acI rfl rfl (z_rpn (by decide +kernel)) (by funext j; simp [z_up]) ⟨by decide, by decide⟩ ?_
  refine z_putRF dX11_init_169 fl_X11_78 rfl rfl rfl rfl rfl ?_
  rw [z_rp_s (m := 110) (by decide +kernel) (by decide +kernel)]
  refine z_aload_n dX11_init_172 rfl rfl ?_
  refine z_bipush (v := nI 40) dX11_init_173 (by decide) ?_
  refine z_newI (N := 40) (rc' := 9) (rs' := 284) dX11_init_175 acI rfl rfl (z_rpn (by decide +kernel)) (by funext j; simp [z_up]) ⟨by decide, by decide⟩ ?_
  refine z_putRF dX11_init_177 fl_X11_81 rfl rfl rfl rfl rfl ?_
  rw [z_rp_s (m := 111) (by decide +kernel) (by decide +kernel)]
  refine z_aload_n dX11_init_180 rfl rfl ?_
  refine z_bipush (v := nI 40) dX11_init_181 (by decide) ?_
  refine z_newI (N := 40) (rc' := 8) (rs' := 244) dX11_init_183 acI rfl rfl (z_rpn (by decide +kernel)) (by funext j; simp [z_up]) ⟨by decide, by decide⟩ ?_
  refine z_putRF dX11_init_185 fl_X11_84 rfl rfl rfl rfl rfl ?_
  rw [z_rp_s (m := 112) (by decide +kernel) (by decide +kernel)]
  refine z_aload_n dX11_init_188 rfl rfl ?_
  refine z_bipush (v := nI 40) dX11_init_189 (by decide) ?_
  refine z_newI (N := 40) (rc' := 7) (rs' := 204) dX11_init_191 acI rfl rfl (z_rpn (by decide +kernel)) (by funext j; simp [z_up]) ⟨by decide, by decide⟩ ?_
  refine z_putRF dX11_init_193 fl_X11_87 rfl rfl rfl rfl rfl ?_
  rw [z_rp_s (m := 113) (by decide +kernel) (by decide +kernel)]
  refine z_aload_n dX11_init_196 rfl rfl ?_
  refine z_bipush (v := nI 40) dX11_init_197 (by decide) ?_
  refine z_newI (N := 40) (rc' := 6) (rs' := 164) dX11_init_199 acI rfl rfl (z_rpn (by decide +kernel)) (by funext j; simp [z_up]) ⟨by decide, by decide⟩ ?_
  refine z_putRF dX11_init_201 fl_X11_90 rfl rfl rfl rfl rfl ?_
  rw [z_rp_s (m := 114) (by decide +kernel) (by decide +kernel)]
  refine z_aload_n dX11_init_204 rfl rfl ?_
  refine z_bipush (v := nI 40) dX11_init_205 (by decide) ?_
  refine z_newZ (N := 40) (rc' := 5) (rs' := 124) dX11_init_207 acZ rfl rfl (z_rpn (by decide +kernel)) (by funext j; simp [z_up]) ⟨by decide, by decide⟩ ?_
  refine z_putRF dX11_init_209 fl_X11_93 rfl rfl rfl rfl rfl ?_
  rw [z_rp_s (m := 115) (by decide +kernel) (by decide +kernel)]
  refine z_aload_n dX11_init_212 rfl rfl ?_
  refine z_bipush (v := nI 40) dX11_init_213 (by decide) ?_
  refine z_newZ (N := 40) (rc' := 4) (rs' := 84) dX11_init_215 acZ rfl rfl (z_rpn (by decide +kernel)) (by funext j; simp [z_up]) ⟨by decide, by decide⟩ ?_
  refine z_putRF dX11_init_217 fl_X11_96 rfl rfl rfl rfl rfl ?_
  rw [z_rp_s (m := 116) (by decide +kernel) (by decide +kernel)]
  refine z_aload_n dX11_init_220 rfl rfl ?_
  refine z_bipush (v := nI 40) dX11_init_221 (by decide) ?_
  refine z_newI (N := 40) (rc' := 3) (rs' := 44) dX11_init_223 acI rfl rfl (z_rpn (by decide +kernel)) (by funext j; simp [z_up]) ⟨by decide, by decide⟩ ?_
  refine z_putRF dX11_init_225 fl_X11_99 rfl rfl rfl rfl rfl ?_
  rw [z_rp_s (m := 117) (by decide +kernel) (by decide +kernel)]
  refine z_aload_n dX11_init_228 rfl rfl ?_
  refine z_bipush (v := nI 6) dX11_init_229 (by decide) ?_
  refine z_newI (N := 6) (rc' := 2) (rs' := 38) dX11_init_231 acI rfl rfl (z_rpn (by decide +kernel)) (by funext j; simp [z_up]) ⟨by decide, by decide⟩ ?_
  refine z_putRF dX11_init_233 fl_X11_102 rfl rfl rfl rfl rfl ?_
  rw [z_rp_s (m := 118) (by decide +kernel) (by decide +kernel)]
  refine z_aload_n dX11_init_236 rfl rfl ?_
  refine z_bipush (v := nI 8) dX11_init_237 (by decide) ?_
  refine z_newI (N := 8) (rc' := 1) (rs' := 30) dX11_init_239 acI rfl rfl (z_rpn (by decide +kernel)) (by funext j; simp [z_up]) ⟨by decide, by decide⟩ ?_
  refine z_putRF dX11_init_241 fl_X11_105 rfl rfl rfl rfl rfl ?_
  rw [z_rp_s (m := 119) (by decide +kernel) (by decide +kernel)]
  refine z_aload_n dX11_init_244 rfl rfl ?_
  refine z_bipush (v := nI 30) dX11_init_245 (by decide) ?_
  refine z_newI (N := 30) (rc' := 0) (rs' := 0) dX11_init_247 acI rfl rfl (z_rpn (by decide +kernel)) (by funext j; simp [z_up]) ⟨by decide, by decide⟩ ?_
  refine z_putRF dX11_init_249 fl_X11_108 rfl rfl rfl rfl rfl ?_
  rw [z_rp_s (m := 120) (by decide +kernel) (by decide +kernel)]
  exact z_vret dX11_init_252 rfl rfl rfl
