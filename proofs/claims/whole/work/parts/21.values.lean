/-! PART 21: Values -/
def wk (op : Nat) (a b : Int32) : Int32 := if op = 3 then a + b else if op = 4 then a - b else if op = 5 then a * b else if op = 6 then a &&& b else if op = 7 then (if a < b then 1 else 0) else (if a = b then 1 else 0)
set_option maxRecDepth 100000 in
set_option maxHeartbeats 4000000 in
theorem sp_result {d op : Nat} {a b : Int32} {X : z_X} (h3 : 3 ≤ op) (h8 : op ≤ 8) : z_MV M_X9_result d 0 0 [.int (nI op), .int a, .int b] X (some (.int (wk op a b))) X := by
  refine z_MV.of pn_X9_result (Nat.le_of_ble_eq_true rfl) (by simp [Value.category]) rfl ?_
  show z_V _ _ _ _ _ _ _ _ _ [_, _, _] _ _
  rcases (show op = 3 ∨ op = 4 ∨ op = 5 ∨ op = 6 ∨ op = 7 ∨ op = 8 by omega) with rfl | rfl | rfl | rfl | rfl | rfl
  · refine z_iload_n dX9_result_0 rfl rfl ?_
    refine z_tableIn (off := 35) (tgt := 36) dX9_result_1 (by decide) (by decide) (by decide) (by decide) ?_
    refine z_iload_n dX9_result_36 rfl rfl ?_
    refine z_iload_n dX9_result_37 rfl rfl ?_
    refine z_iadd dX9_result_38 rfl ?_
    exact z_iret dX9_result_39 rfl (by first | rfl | simp_all [wk]) rfl
  · refine z_iload_n dX9_result_0 rfl rfl ?_
    refine z_tableIn (off := 39) (tgt := 40) dX9_result_1 (by decide) (by decide) (by decide) (by decide) ?_
    refine z_iload_n dX9_result_40 rfl rfl ?_
    refine z_iload_n dX9_result_41 rfl rfl ?_
    refine z_isub dX9_result_42 rfl ?_
    exact z_iret dX9_result_43 rfl (by first | rfl | simp_all [wk]) rfl
  · refine z_iload_n dX9_result_0 rfl rfl ?_
    refine z_tableIn (off := 43) (tgt := 44) dX9_result_1 (by decide) (by decide) (by decide) (by decide) ?_
    refine z_iload_n dX9_result_44 rfl rfl ?_
    refine z_iload_n dX9_result_45 rfl rfl ?_
    refine z_imul dX9_result_46 rfl ?_
    exact z_iret dX9_result_47 rfl (by first | rfl | simp_all [wk]) rfl
  · refine z_iload_n dX9_result_0 rfl rfl ?_
    refine z_tableIn (off := 47) (tgt := 48) dX9_result_1 (by decide) (by decide) (by decide) (by decide) ?_
    refine z_iload_n dX9_result_48 rfl rfl ?_
    refine z_iload_n dX9_result_49 rfl rfl ?_
    refine z_iand dX9_result_50 rfl ?_
    exact z_iret dX9_result_51 rfl (by first | rfl | simp_all [wk]) rfl
  · refine z_iload_n dX9_result_0 rfl rfl ?_
    refine z_tableIn (off := 51) (tgt := 52) dX9_result_1 (by decide) (by decide) (by decide) (by decide) ?_
    refine z_iload_n dX9_result_52 rfl rfl ?_
    refine z_iload_n dX9_result_53 rfl rfl ?_
    refine z_icmp_ge (tgt := 61) dX9_result_54 (by decide) (fun c54 => ?_) (fun c54 => ?_)
    · refine z_iconst (v := 0) dX9_result_61 (by decide) ?_
      exact z_iret dX9_result_62 rfl (by first | rfl | simp_all [wk]) rfl
    · refine z_iconst (v := 1) dX9_result_57 (by decide) ?_
      refine z_goto (tgt := 62) dX9_result_58 (by decide) ?_
      exact z_iret dX9_result_62 rfl (by first | rfl | simp_all [wk]) rfl
  · refine z_iload_n dX9_result_0 rfl rfl ?_
    refine z_tableOut (tgt := 63) dX9_result_1 (by decide) (by decide) ?_
    refine z_iload_n dX9_result_63 rfl rfl ?_
    refine z_iload_n dX9_result_64 rfl rfl ?_
    refine z_icmp_ne (tgt := 72) dX9_result_65 (by decide) (fun c65 => ?_) (fun c65 => ?_)
    · refine z_iconst (v := 0) dX9_result_72 (by decide) ?_
      exact z_iret dX9_result_73 rfl (by first | rfl | simp_all [wk]) rfl
    · refine z_iconst (v := 1) dX9_result_68 (by decide) ?_
      refine z_goto (tgt := 73) dX9_result_69 (by decide) ?_
      exact z_iret dX9_result_73 rfl (by first | rfl | simp_all [wk]) rfl
set_option maxRecDepth 100000 in
set_option maxHeartbeats 4000000 in
theorem sp_isNumber {d : Nat} {σ : Nat → Nat → Int32} {τ : Nat → Nat → Int64} {t v : Nat} (ht : t < 4) (hv : v < 36) : z_MV M_X9_isNumber d 0 0 [.ref (tr t + 1), .int (nI v)] (124, z_r0, σ, τ) (some (.int (b2i (σ (tr t + 2) v = 0)))) (124, z_r0, σ, τ) := by
  refine z_MV.of pn_X9_isNumber (Nat.le_of_ble_eq_true rfl) (by simp [Value.category]) rfl ?_
  show z_V _ _ _ _ _ _ _ _ _ [_, _] _ _
  have hk := tr_k ht
  have hr := tr_r ht
  refine z_aload_n dX9_isNumber_0 rfl rfl ?_
  refine z_getR dX9_isNumber_1 fl_X9_9 rfl hk.2.1 hr.2.2.2.2.2.2.2.1 ?_
  refine z_iload_n dX9_isNumber_4 rfl rfl ?_
  refine z_iald dX9_isNumber_5 hk.2.2.1 rfl (by omega) rfl ?_
  refine z_if_ne (tgt := 13) dX9_isNumber_6 (by decide) (fun c6 => ?_) (fun c6 => ?_)
  · refine z_iconst (v := 0) dX9_isNumber_13 (by decide) ?_
    exact z_zret dX9_isNumber_14 rfl (by first | exact Or.inl rfl | exact Or.inr rfl) (by simp_all [b2i]) rfl
  · refine z_iconst (v := 1) dX9_isNumber_9 (by decide) ?_
    refine z_goto (tgt := 14) dX9_isNumber_10 (by decide) ?_
    exact z_zret dX9_isNumber_14 rfl (by first | exact Or.inl rfl | exact Or.inr rfl) (by simp_all [b2i]) rfl
set_option maxRecDepth 100000 in
set_option maxHeartbeats 4000000 in
theorem sp_isOperation {d : Nat} {σ : Nat → Nat → Int32} {τ : Nat → Nat → Int64} {t v : Nat} (ht : t < 4) (hv : v < 36) : z_MV M_X9_isOperation d 0 0 [.ref (tr t + 1), .int (nI v)] (124, z_r0, σ, τ) (some (.int (b2i (σ (tr t + 2) v ≠ 0 ∧ σ (tr t + 2) v ≠ 1)))) (124, z_r0, σ, τ) := by
  refine z_MV.of pn_X9_isOperation (Nat.le_of_ble_eq_true rfl) (by simp [Value.category]) rfl ?_
  show z_V _ _ _ _ _ _ _ _ _ [_, _] _ _
  have hk := tr_k ht
  have hr := tr_r ht
  refine z_aload_n dX9_isOperation_0 rfl rfl ?_
  refine z_getR dX9_isOperation_1 fl_X9_9 rfl hk.2.1 hr.2.2.2.2.2.2.2.1 ?_
  refine z_iload_n dX9_isOperation_4 rfl rfl ?_
  refine z_iald dX9_isOperation_5 hk.2.2.1 rfl (by omega) rfl ?_
  refine z_if_eq (tgt := 23) dX9_isOperation_6 (by decide) (fun c6 => ?_) (fun c6 => ?_)
  · refine z_iconst (v := 0) dX9_isOperation_23 (by decide) ?_
    exact z_zret dX9_isOperation_24 rfl (by first | exact Or.inl rfl | exact Or.inr rfl) (by simp_all [b2i]) rfl
  · refine z_aload_n dX9_isOperation_9 rfl rfl ?_
    refine z_getR dX9_isOperation_10 fl_X9_9 rfl hk.2.1 hr.2.2.2.2.2.2.2.1 ?_
    refine z_iload_n dX9_isOperation_13 rfl rfl ?_
    refine z_iald dX9_isOperation_14 hk.2.2.1 rfl (by omega) rfl ?_
    refine z_iconst (v := 1) dX9_isOperation_15 (by decide) ?_
    refine z_icmp_eq (tgt := 23) dX9_isOperation_16 (by decide) (fun c16 => ?_) (fun c16 => ?_)
    · refine z_iconst (v := 0) dX9_isOperation_23 (by decide) ?_
      exact z_zret dX9_isOperation_24 rfl (by first | exact Or.inl rfl | exact Or.inr rfl) (by simp_all [b2i]) rfl
    · refine z_iconst (v := 1) dX9_isOperation_19 (by decide) ?_
      refine z_goto (tgt := 24) dX9_isOperation_20 (by decide) ?_
      exact z_zret dX9_isOperation_24 rfl (by first | exact Or.inl rfl | exact Or.inr rfl) (by simp_all [b2i]) rfl
set_option maxRecDepth 100000 in
set_option maxHeartbeats 4000000 in
theorem sp_work {d : Nat} {σ : Nat → Nat → Int32} {τ : Nat → Nat → Int64} {t v : Nat} (ht : t < 4) (hv : v < 36) {op a b : Nat} (hop : σ (tr t + 2) v = nI op) (h3 : 3 ≤ op) (h8 : op ≤ 8) (hla : σ (tr t + 3) v = nI a) (ha : a < 36) (hlb : σ (tr t + 4) v = nI b) (hb : b < 36) : z_MV M_X9_work (d + 1) 0 0 [.ref (tr t + 1), .int (nI v)] (124, z_r0, σ, τ) (none) (124, z_r0, z_up σ (tr t + 5) v (wk op (σ (tr t + 5) a) (σ (tr t + 5) b)), τ) := by
  refine z_MV.of pn_X9_work (Nat.le_of_ble_eq_true rfl) (by simp [Value.category]) rfl ?_
  show z_V _ _ _ _ _ _ _ _ _ [_, _] _ _
  have hk := tr_k ht
  have hr := tr_r ht
  refine z_aload_n dX9_work_0 rfl rfl ?_
  refine z_getR dX9_work_1 fl_X9_21 rfl hk.2.1 hr.2.2.2.2.2.2.2.2.2.2.1 ?_
  refine z_iload_n dX9_work_4 rfl rfl ?_
  refine z_aload_n dX9_work_5 rfl rfl ?_
  refine z_getR dX9_work_6 fl_X9_9 rfl hk.2.1 hr.2.2.2.2.2.2.2.1 ?_
  refine z_iload_n dX9_work_9 rfl rfl ?_
  refine z_iald dX9_work_10 hk.2.2.1 rfl (by omega) hop ?_
  refine z_aload_n dX9_work_11 rfl rfl ?_
  refine z_getR dX9_work_12 fl_X9_21 rfl hk.2.1 hr.2.2.2.2.2.2.2.2.2.2.1 ?_
  refine z_aload_n dX9_work_15 rfl rfl ?_
  refine z_getR dX9_work_16 fl_X9_15 rfl hk.2.1 hr.2.2.2.2.2.2.2.2.1 ?_
  refine z_iload_n dX9_work_19 rfl rfl ?_
  refine z_iald dX9_work_20 hk.2.2.2.1 rfl (by omega) hla ?_
  refine z_iald dX9_work_21 hk.2.2.2.2.2.1 rfl (by omega) rfl ?_
  refine z_aload_n dX9_work_22 rfl rfl ?_
  refine z_getR dX9_work_23 fl_X9_21 rfl hk.2.1 hr.2.2.2.2.2.2.2.2.2.2.1 ?_
  refine z_aload_n dX9_work_26 rfl rfl ?_
  refine z_getR dX9_work_27 fl_X9_18 rfl hk.2.1 hr.2.2.2.2.2.2.2.2.2.1 ?_
  refine z_iload_n dX9_work_30 rfl rfl ?_
  refine z_iald dX9_work_31 hk.2.2.2.2.1 rfl (by omega) hlb ?_
  refine z_iald dX9_work_32 hk.2.2.2.2.2.1 rfl (by omega) rfl ?_
  refine z_cS1 dX9_work_33 ml_X9_38 (sp_result h3 h8) rfl rfl (Nat.le_of_ble_eq_true rfl) ?_
  refine z_iast dX9_work_36 hk.2.2.2.2.2.1 rfl (by omega) ?_
  exact z_vret dX9_work_37 rfl rfl rfl
