/-! PART 23: Given, floorMod, Code (small), Trace (small), Guards.holds -/
set_option maxRecDepth 100000 in
set_option maxHeartbeats 4000000 in
theorem sp_give {d : Nat} {σ : Nat → Nat → Int32} {τ : Nat → Nat → Int64} {e : Nat} {x : Int32} (he : σ 9 1 = nI e) (hl : e < 30) : z_MV M_X2_give d 0 0 [.ref 9, .int x] (124, z_r0, σ, τ) (none) (124, z_r0, z_up (z_up (z_up σ 9 1 (nI ((e + 1) % 30))) 10 ((e + 1) % 30) x) 9 2 (σ 9 2 + 1), τ) := by
  refine z_MV.of pn_X2_give (Nat.le_of_ble_eq_true rfl) (by simp [Value.category]) rfl ?_
  show z_V _ _ _ _ _ _ _ _ _ [_, _] _ _
  refine z_aload_n dX2_give_0 rfl rfl ?_
  refine z_aload_n dX2_give_1 rfl rfl ?_
  refine z_getI dX2_give_2 fl_X2_15 rfl rfl he ?_
  refine z_iconst (v := 1) dX2_give_5 (by decide) ?_
  refine z_iadd dX2_give_6 (nI_1 _) ?_
  refine z_bipush (v := nI 30) dX2_give_7 (by decide) ?_
  refine z_icmp_ge (tgt := 21) dX2_give_9 (by decide) (fun c9 => ?_) (fun c9 => ?_)
  · have e1 : e = 29 := by
      rcases Nat.lt_or_ge (e + 1) 30 with q | q
      · exact absurd c9 (nI_ge q (by decide))
      · omega
    have e0 : (e + 1) % 30 = 0 := by omega
    refine z_iconst (v := 0) dX2_give_21 (by decide) ?_
    refine z_putI dX2_give_22 fl_X2_15 rfl rfl (Or.inl rfl) rfl ?_
    refine z_aload_n dX2_give_25 rfl rfl ?_
    refine z_getR dX2_give_26 fl_X2_9 rfl rfl rfl ?_
    refine z_aload_n dX2_give_29 rfl rfl ?_
    refine z_getI dX2_give_30 fl_X2_15 rfl rfl (show _ = nI ((e + 1) % 30) by simp [z_up, e0, nI_0]) ?_
    refine z_iload_n dX2_give_33 rfl rfl ?_
    refine z_iast dX2_give_34 rfl rfl (Nat.mod_lt _ (by decide)) ?_
    refine z_aload_n dX2_give_35 rfl rfl ?_
    refine z_dup dX2_give_36 rfl ?_
    refine z_getI dX2_give_37 fl_X2_19 rfl rfl (show _ = σ 9 2 by simp [z_up]) ?_
    refine z_iconst (v := 1) dX2_give_40 (by decide) ?_
    refine z_iadd dX2_give_41 rfl ?_
    refine z_putI dX2_give_42 fl_X2_19 rfl rfl (Or.inl rfl) rfl ?_
    exact z_vret dX2_give_45 rfl rfl (by simp [e0, nI_0])
  · have e1 : e + 1 < 30 := by
      rcases Nat.lt_or_ge (e + 1) 30 with q | q
      · exact q
      · exact absurd (nI_le q (by omega)) c9
    have e0 : (e + 1) % 30 = e + 1 := Nat.mod_eq_of_lt e1
    refine z_aload_n dX2_give_12 rfl rfl ?_
    refine z_getI dX2_give_13 fl_X2_15 rfl rfl he ?_
    refine z_iconst (v := 1) dX2_give_16 (by decide) ?_
    refine z_iadd dX2_give_17 (nI_1 _) ?_
    refine z_goto (tgt := 22) dX2_give_18 (by decide) ?_
    refine z_putI dX2_give_22 fl_X2_15 rfl rfl (Or.inl rfl) rfl ?_
    refine z_aload_n dX2_give_25 rfl rfl ?_
    refine z_getR dX2_give_26 fl_X2_9 rfl rfl rfl ?_
    refine z_aload_n dX2_give_29 rfl rfl ?_
    refine z_getI dX2_give_30 fl_X2_15 rfl rfl (show _ = nI ((e + 1) % 30) by simp [z_up, e0, nI_0]) ?_
    refine z_iload_n dX2_give_33 rfl rfl ?_
    refine z_iast dX2_give_34 rfl rfl (Nat.mod_lt _ (by decide)) ?_
    refine z_aload_n dX2_give_35 rfl rfl ?_
    refine z_dup dX2_give_36 rfl ?_
    refine z_getI dX2_give_37 fl_X2_19 rfl rfl (show _ = σ 9 2 by simp [z_up]) ?_
    refine z_iconst (v := 1) dX2_give_40 (by decide) ?_
    refine z_iadd dX2_give_41 rfl ?_
    refine z_putI dX2_give_42 fl_X2_19 rfl rfl (Or.inl rfl) rfl ?_
    exact z_vret dX2_give_45 rfl rfl (by simp [e0, nI_0])
set_option maxRecDepth 100000 in
set_option maxHeartbeats 4000000 in
theorem sp_keeps {d : Nat} {σ : Nat → Nat → Int32} {τ : Nat → Nat → Int64} {x : Int32} : z_MV M_X2_keeps d 0 0 [.ref 9, .int x] (124, z_r0, σ, τ) (some (.int (b2i (¬ x < 0 ∧ ¬ nI 30 ≤ x ∧ ¬ σ 9 2 ≤ x)))) (124, z_r0, σ, τ) := by
  refine z_MV.of pn_X2_keeps (Nat.le_of_ble_eq_true rfl) (by simp [Value.category]) rfl ?_
  show z_V _ _ _ _ _ _ _ _ _ [_, _] _ _
  refine z_iload_n dX2_keeps_0 rfl rfl ?_
  refine z_if_lt (tgt := 22) dX2_keeps_1 (by decide) (fun c1 => ?_) (fun c1 => ?_)
  · refine z_iconst (v := 0) dX2_keeps_22 (by decide) ?_
    exact z_zret dX2_keeps_23 rfl (by first | exact Or.inl rfl | exact Or.inr rfl) (by simp_all [b2i]) rfl
  · refine z_iload_n dX2_keeps_4 rfl rfl ?_
    refine z_bipush (v := nI 30) dX2_keeps_5 (by decide) ?_
    refine z_icmp_ge (tgt := 22) dX2_keeps_7 (by decide) (fun c7 => ?_) (fun c7 => ?_)
    · refine z_iconst (v := 0) dX2_keeps_22 (by decide) ?_
      exact z_zret dX2_keeps_23 rfl (by first | exact Or.inl rfl | exact Or.inr rfl) (by simp_all [b2i]) rfl
    · refine z_iload_n dX2_keeps_10 rfl rfl ?_
      refine z_aload_n dX2_keeps_11 rfl rfl ?_
      refine z_getI dX2_keeps_12 fl_X2_19 rfl rfl rfl ?_
      refine z_icmp_ge (tgt := 22) dX2_keeps_15 (by decide) (fun c15 => ?_) (fun c15 => ?_)
      · refine z_iconst (v := 0) dX2_keeps_22 (by decide) ?_
        exact z_zret dX2_keeps_23 rfl (by first | exact Or.inl rfl | exact Or.inr rfl) (by simp_all [b2i]) rfl
      · refine z_iconst (v := 1) dX2_keeps_18 (by decide) ?_
        refine z_goto (tgt := 23) dX2_keeps_19 (by decide) ?_
        exact z_zret dX2_keeps_23 rfl (by first | exact Or.inl rfl | exact Or.inr rfl) (by simp_all [b2i]) rfl
def fm (x y : Int32) : Int32 := if 0 ≤ x ^^^ y then x - x / y * y else if x - x / y * y = 0 then x - x / y * y else x - x / y * y + y
theorem fm_30 : ∀ e, e < 30 → ∀ j, j < 30 → fm (nI e - nI j) (nI 30) = nI ((e + 30 - j) % 30) := by decide +kernel
set_option maxRecDepth 100000 in
set_option maxHeartbeats 4000000 in
theorem sp_floorMod {d : Nat} {x y : Int32} {X : z_X} (hy : ¬ y = 0) : z_MV M_J9_floorMod_7cf53 d 0 0 [.int x, .int y] X (some (.int (fm x y))) X := by
  refine z_MV.ofF (by decide +kernel) (Nat.le_of_ble_eq_true rfl) (by simp [Value.category]) rfl ?_
  show z_V _ _ _ _ _ _ _ _ _ [_, _, _] _ _
  refine z_iload_n dJ9_floorMod_7cf53_0 rfl rfl ?_
  refine z_iload_n dJ9_floorMod_7cf53_1 rfl rfl ?_
  refine z_irem dJ9_floorMod_7cf53_2 hy rfl ?_
  refine z_istore_n dJ9_floorMod_7cf53_3 rfl (by decide) ?_
  show z_V _ _ _ _ _ _ _ _ _ [_, _, _] _ _
  refine z_iload_n dJ9_floorMod_7cf53_4 rfl rfl ?_
  refine z_iload_n dJ9_floorMod_7cf53_5 rfl rfl ?_
  refine z_ixor dJ9_floorMod_7cf53_6 rfl ?_
  refine z_if_ge (tgt := 18) dJ9_floorMod_7cf53_7 (by decide) (fun c7 => ?_) (fun c7 => ?_)
  · refine z_iload_n dJ9_floorMod_7cf53_18 rfl rfl ?_
    exact z_iret dJ9_floorMod_7cf53_19 rfl (by first | (simp [fm, c7, c11]; done) | (simp [fm, c7]; done)) rfl
  · refine z_iload_n dJ9_floorMod_7cf53_10 rfl rfl ?_
    refine z_if_eq (tgt := 18) dJ9_floorMod_7cf53_11 (by decide) (fun c11 => ?_) (fun c11 => ?_)
    · refine z_iload_n dJ9_floorMod_7cf53_18 rfl rfl ?_
      exact z_iret dJ9_floorMod_7cf53_19 rfl (by first | (simp [fm, c7, c11]; done) | (simp [fm, c7]; done)) rfl
    · refine z_iload_n dJ9_floorMod_7cf53_14 rfl rfl ?_
      refine z_iload_n dJ9_floorMod_7cf53_15 rfl rfl ?_
      refine z_iadd dJ9_floorMod_7cf53_16 rfl ?_
      exact z_iret dJ9_floorMod_7cf53_17 rfl (by simp [fm, c7, c11]) rfl
set_option maxRecDepth 100000 in
set_option maxHeartbeats 4000000 in
theorem sp_back {d : Nat} {σ : Nat → Nat → Int32} {τ : Nat → Nat → Int64} {e j : Nat} (he : σ 9 1 = nI e) (hl : e < 30) (hj : j < 30) : z_MV M_X2_back (d + 1) 0 0 [.ref 9, .int (nI j)] (124, z_r0, σ, τ) (some (.int (σ 10 ((e + 30 - j) % 30)))) (124, z_r0, σ, τ) := by
  refine z_MV.of pn_X2_back (Nat.le_of_ble_eq_true rfl) (by simp [Value.category]) rfl ?_
  show z_V _ _ _ _ _ _ _ _ _ [_, _] _ _
  refine z_aload_n dX2_back_0 rfl rfl ?_
  refine z_getR dX2_back_1 fl_X2_9 rfl rfl rfl ?_
  refine z_aload_n dX2_back_4 rfl rfl ?_
  refine z_getI dX2_back_5 fl_X2_15 rfl rfl he ?_
  refine z_iload_n dX2_back_8 rfl rfl ?_
  refine z_isub dX2_back_9 rfl ?_
  refine z_bipush (v := nI 30) dX2_back_10 (by decide) ?_
  refine z_cS1 dX2_back_12 ml_X2_22 (sp_floorMod (by decide)) rfl rfl (Nat.le_of_ble_eq_true rfl) ?_
  refine z_iald (j := (e + 30 - j) % 30) dX2_back_15 rfl (fm_30 e hl j hj) (Nat.mod_lt _ (by decide)) rfl ?_
  exact z_iret dX2_back_16 rfl rfl rfl
set_option maxRecDepth 100000 in
set_option maxHeartbeats 4000000 in
theorem sp_append {d : Nat} {σ : Nat → Nat → Int32} {τ : Nat → Nat → Int64} {n : Nat} {x y : Int32} (hn : σ 1 2 = nI n) (hl : n < 40) : z_MV M_X0_append d 0 0 [.ref 1, .int x, .int y] (124, z_r0, σ, τ) (none) (124, z_r0, z_up (z_up (z_up σ 2 n x) 3 n y) 1 2 (nI (n + 1)), τ) := by
  refine z_MV.of pn_X0_append (Nat.le_of_ble_eq_true rfl) (by simp [Value.category]) rfl ?_
  show z_V _ _ _ _ _ _ _ _ _ [_, _, _] _ _
  refine z_aload_n dX0_append_0 rfl rfl ?_
  refine z_getR dX0_append_1 fl_X0_9 rfl rfl rfl ?_
  refine z_aload_n dX0_append_4 rfl rfl ?_
  refine z_getI dX0_append_5 fl_X0_24 rfl rfl (show _ = nI n by simp [z_up, hn]) ?_
  refine z_iload_n dX0_append_8 rfl rfl ?_
  refine z_iast dX0_append_9 rfl rfl (by omega) ?_
  refine z_aload_n dX0_append_10 rfl rfl ?_
  refine z_getR dX0_append_11 fl_X0_15 rfl rfl rfl ?_
  refine z_aload_n dX0_append_14 rfl rfl ?_
  refine z_getI dX0_append_15 fl_X0_24 rfl rfl (show _ = nI n by simp [z_up, hn]) ?_
  refine z_iload_n dX0_append_18 rfl rfl ?_
  refine z_iast dX0_append_19 rfl rfl (by omega) ?_
  refine z_aload_n dX0_append_20 rfl rfl ?_
  refine z_dup dX0_append_21 rfl ?_
  refine z_getI dX0_append_22 fl_X0_24 rfl rfl (show _ = nI n by simp [z_up, hn]) ?_
  refine z_iconst (v := 1) dX0_append_25 (by decide) ?_
  refine z_iadd dX0_append_26 (nI_1 _) ?_
  refine z_putI dX0_append_27 fl_X0_24 rfl rfl (Or.inl rfl) rfl ?_
  exact z_vret dX0_append_30 rfl rfl rfl
set_option maxRecDepth 100000 in
set_option maxHeartbeats 4000000 in
theorem sp_resetAt {d : Nat} {σ : Nat → Nat → Int32} {τ : Nat → Nat → Int64} {t : Nat} (ht : t < 4) {x : Int32} : z_MV M_X7_resetAt (d + 2) 0 0 [.ref (tr t), .int x] (124, z_r0, σ, τ) (none) (124, z_r0, z_up (z_up (z_up (z_up (z_up (rsV σ (tr t) 6) (tr t + 6) 5 0) (tr t) 3 x) (tr t) 4 0) (tr t) 9 0) (tr t) 5 0, τ) := by
  refine z_MV.of pn_X7_resetAt (Nat.le_of_ble_eq_true rfl) (by simp [Value.category]) rfl ?_
  show z_V _ _ _ _ _ _ _ _ _ [_, _] _ _
  have hk := tr_k ht
  have hr := tr_r ht
  refine z_aload_n dX7_resetAt_0 rfl rfl ?_
  refine z_getR dX7_resetAt_1 fl_X7_12 rfl hk.1 hr.2.1 ?_
  refine z_cV0 dX7_resetAt_4 ml_X7_38 (sp_vreset ht) hk.2.1 ⟨by decide, rfl⟩ rfl rfl (Nat.le_of_ble_eq_true rfl) ?_
  refine z_aload_n dX7_resetAt_7 rfl rfl ?_
  refine z_getR dX7_resetAt_8 fl_X7_21 rfl hk.1 hr.2.2.1 ?_
  refine z_iconst (v := 0) dX7_resetAt_11 (by decide) ?_
  refine z_putI dX7_resetAt_12 fl_X7_41 rfl rfl (Or.inl rfl) hk.2.2.2.2.2.2.1 ?_
  refine z_aload_n dX7_resetAt_15 rfl rfl ?_
  refine z_iload_n dX7_resetAt_16 rfl rfl ?_
  refine z_putI dX7_resetAt_17 fl_X7_45 rfl rfl (Or.inl rfl) hk.1 ?_
  refine z_aload_n dX7_resetAt_20 rfl rfl ?_
  refine z_iconst (v := 0) dX7_resetAt_21 (by decide) ?_
  refine z_putI dX7_resetAt_22 fl_X7_48 rfl rfl (Or.inl rfl) hk.1 ?_
  refine z_aload_n dX7_resetAt_25 rfl rfl ?_
  refine z_iconst (v := 0) dX7_resetAt_26 (by decide) ?_
  refine z_putI dX7_resetAt_27 fl_X7_51 rfl rfl (Or.inl rfl) hk.1 ?_
  refine z_aload_n dX7_resetAt_30 rfl rfl ?_
  refine z_iconst (v := 0) dX7_resetAt_31 (by decide) ?_
  refine z_putI dX7_resetAt_32 fl_X7_54 rfl rfl (Or.inl rfl) hk.1 ?_
  exact z_vret dX7_resetAt_35 rfl rfl rfl
set_option maxRecDepth 100000 in
set_option maxHeartbeats 4000000 in
theorem sp_putInHead {d : Nat} {σ : Nat → Nat → Int32} {τ : Nat → Nat → Int64} {t : Nat} (ht : t < 4) {e : Nat} {x : Int32} (he : σ (tr t) 4 = nI e) (hl : e < 30) : z_MV M_X7_putInHead d 0 0 [.ref (tr t), .int x] (124, z_r0, σ, τ) (none) (124, z_r0, z_up (z_up σ (tr t + 13) e x) (tr t) 4 (nI (e + 1)), τ) := by
  refine z_MV.of pn_X7_putInHead (Nat.le_of_ble_eq_true rfl) (by simp [Value.category]) rfl ?_
  show z_V _ _ _ _ _ _ _ _ _ [_, _] _ _
  have hk := tr_k ht
  have hr := tr_r ht
  refine z_aload_n dX7_putInHead_0 rfl rfl ?_
  refine z_getR dX7_putInHead_1 fl_X7_29 rfl hk.1 hr.2.2.2.2.1 ?_
  refine z_aload_n dX7_putInHead_4 rfl rfl ?_
  refine z_getI dX7_putInHead_5 fl_X7_48 rfl hk.1 (show _ = nI e by simp [z_up, he]) ?_
  refine z_iload_n dX7_putInHead_8 rfl rfl ?_
  refine z_iast dX7_putInHead_9 hk.2.2.2.2.2.2.2.2.2.2.2.2.2.1 rfl (by omega) ?_
  refine z_aload_n dX7_putInHead_10 rfl rfl ?_
  refine z_dup dX7_putInHead_11 rfl ?_
  refine z_getI dX7_putInHead_12 fl_X7_48 rfl hk.1 (show _ = nI e by simp [z_up, he]) ?_
  refine z_iconst (v := 1) dX7_putInHead_15 (by decide) ?_
  refine z_iadd dX7_putInHead_16 (nI_1 _) ?_
  refine z_putI dX7_putInHead_17 fl_X7_48 rfl rfl (Or.inl rfl) hk.1 ?_
  exact z_vret dX7_putInHead_20 rfl rfl rfl
set_option maxRecDepth 100000 in
set_option maxHeartbeats 4000000 in
theorem sp_putInBody0 {d : Nat} {σ : Nat → Nat → Int32} {τ : Nat → Nat → Int64} {t : Nat} (ht : t < 4) {e : Nat} {x y : Int32} (he : σ (tr t) 9 = nI e) (hl : e < 30) (hk2 : ¬ x = nI 2) : z_MV M_X7_putInBody d 0 0 [.ref (tr t), .int x, .int y] (124, z_r0, σ, τ) (none) (124, z_r0, z_up (z_up (z_up σ (tr t + 14) e x) (tr t + 15) e y) (tr t) 9 (nI (e + 1)), τ) := by
  refine z_MV.of pn_X7_putInBody (Nat.le_of_ble_eq_true rfl) (by simp [Value.category]) rfl ?_
  show z_V _ _ _ _ _ _ _ _ _ [_, _, _] _ _
  have hk := tr_k ht
  have hr := tr_r ht
  refine z_aload_n dX7_putInBody_0 rfl rfl ?_
  refine z_getR dX7_putInBody_1 fl_X7_32 rfl hk.1 hr.2.2.2.2.2.1 ?_
  refine z_aload_n dX7_putInBody_4 rfl rfl ?_
  refine z_getI dX7_putInBody_5 fl_X7_51 rfl hk.1 (show _ = nI e by simp [z_up, he]) ?_
  refine z_iload_n dX7_putInBody_8 rfl rfl ?_
  refine z_iast dX7_putInBody_9 hk.2.2.2.2.2.2.2.2.2.2.2.2.2.2.1 rfl (by omega) ?_
  refine z_aload_n dX7_putInBody_10 rfl rfl ?_
  refine z_getR dX7_putInBody_11 fl_X7_35 rfl hk.1 hr.2.2.2.2.2.2.1 ?_
  refine z_aload_n dX7_putInBody_14 rfl rfl ?_
  refine z_getI dX7_putInBody_15 fl_X7_51 rfl hk.1 (show _ = nI e by simp [z_up, he]) ?_
  refine z_iload_n dX7_putInBody_18 rfl rfl ?_
  refine z_iast dX7_putInBody_19 hk.2.2.2.2.2.2.2.2.2.2.2.2.2.2.2 rfl (by omega) ?_
  refine z_aload_n dX7_putInBody_20 rfl rfl ?_
  refine z_dup dX7_putInBody_21 rfl ?_
  refine z_getI dX7_putInBody_22 fl_X7_51 rfl hk.1 (show _ = nI e by simp [z_up, he]) ?_
  refine z_iconst (v := 1) dX7_putInBody_25 (by decide) ?_
  refine z_iadd dX7_putInBody_26 (nI_1 _) ?_
  refine z_putI dX7_putInBody_27 fl_X7_51 rfl rfl (Or.inl rfl) hk.1 ?_
  refine z_iload_n dX7_putInBody_30 rfl rfl ?_
  refine z_iconst (v := nI 2) dX7_putInBody_31 (by decide) ?_
  refine z_icmp_ne (tgt := 45) dX7_putInBody_32 (by decide) (fun _ => ?_) (fun c_ => absurd c_ (hk2))
  exact z_vret dX7_putInBody_45 rfl rfl rfl
set_option maxRecDepth 100000 in
set_option maxHeartbeats 4000000 in
theorem sp_putInBody2 {d : Nat} {σ : Nat → Nat → Int32} {τ : Nat → Nat → Int64} {t : Nat} (ht : t < 4) {e : Nat} {y : Int32} (he : σ (tr t) 9 = nI e) (hl : e < 30) : z_MV M_X7_putInBody d 0 0 [.ref (tr t), .int (nI 2), .int y] (124, z_r0, σ, τ) (none) (124, z_r0, z_up (z_up (z_up (z_up σ (tr t + 14) e (nI 2)) (tr t + 15) e y) (tr t) 9 (nI (e + 1))) (tr t) 5 (σ (tr t) 5 + 1), τ) := by
  refine z_MV.of pn_X7_putInBody (Nat.le_of_ble_eq_true rfl) (by simp [Value.category]) rfl ?_
  show z_V _ _ _ _ _ _ _ _ _ [_, _, _] _ _
  have hk := tr_k ht
  have hr := tr_r ht
  refine z_aload_n dX7_putInBody_0 rfl rfl ?_
  refine z_getR dX7_putInBody_1 fl_X7_32 rfl hk.1 hr.2.2.2.2.2.1 ?_
  refine z_aload_n dX7_putInBody_4 rfl rfl ?_
  refine z_getI dX7_putInBody_5 fl_X7_51 rfl hk.1 (show _ = nI e by simp [z_up, he]) ?_
  refine z_iload_n dX7_putInBody_8 rfl rfl ?_
  refine z_iast dX7_putInBody_9 hk.2.2.2.2.2.2.2.2.2.2.2.2.2.2.1 rfl (by omega) ?_
  refine z_aload_n dX7_putInBody_10 rfl rfl ?_
  refine z_getR dX7_putInBody_11 fl_X7_35 rfl hk.1 hr.2.2.2.2.2.2.1 ?_
  refine z_aload_n dX7_putInBody_14 rfl rfl ?_
  refine z_getI dX7_putInBody_15 fl_X7_51 rfl hk.1 (show _ = nI e by simp [z_up, he]) ?_
  refine z_iload_n dX7_putInBody_18 rfl rfl ?_
  refine z_iast dX7_putInBody_19 hk.2.2.2.2.2.2.2.2.2.2.2.2.2.2.2 rfl (by omega) ?_
  refine z_aload_n dX7_putInBody_20 rfl rfl ?_
  refine z_dup dX7_putInBody_21 rfl ?_
  refine z_getI dX7_putInBody_22 fl_X7_51 rfl hk.1 (show _ = nI e by simp [z_up, he]) ?_
  refine z_iconst (v := 1) dX7_putInBody_25 (by decide) ?_
  refine z_iadd dX7_putInBody_26 (nI_1 _) ?_
  refine z_putI dX7_putInBody_27 fl_X7_51 rfl rfl (Or.inl rfl) hk.1 ?_
  refine z_iload_n dX7_putInBody_30 rfl rfl ?_
  refine z_iconst (v := nI 2) dX7_putInBody_31 (by decide) ?_
  refine z_icmp_ne (tgt := 45) dX7_putInBody_32 (by decide) (fun c_ => absurd (rfl) c_) (fun _ => ?_)
  refine z_aload_n dX7_putInBody_35 rfl rfl ?_
  refine z_dup dX7_putInBody_36 rfl ?_
  refine z_getI dX7_putInBody_37 fl_X7_54 rfl hk.1 (show _ = σ (tr t) 5 by simp [z_up]) ?_
  refine z_iconst (v := 1) dX7_putInBody_40 (by decide) ?_
  refine z_iadd dX7_putInBody_41 rfl ?_
  refine z_putI dX7_putInBody_42 fl_X7_54 rfl rfl (Or.inl rfl) hk.1 ?_
  exact z_vret dX7_putInBody_45 rfl rfl rfl
set_option maxRecDepth 100000 in
set_option maxHeartbeats 4000000 in
theorem sp_bodyOperations {d : Nat} {σ : Nat → Nat → Int32} {τ : Nat → Nat → Int64} {t : Nat} (ht : t < 4) : z_MV M_X7_bodyOperations d 0 0 [.ref (tr t)] (124, z_r0, σ, τ) (some (.int (σ (tr t) 9 - σ (tr t + 6) 5 - σ (tr t) 5))) (124, z_r0, σ, τ) := by
  refine z_MV.of pn_X7_bodyOperations (Nat.le_of_ble_eq_true rfl) (by simp [Value.category]) rfl ?_
  show z_V _ _ _ _ _ _ _ _ _ [_] _ _
  have hk := tr_k ht
  have hr := tr_r ht
  refine z_aload_n dX7_bodyOperations_0 rfl rfl ?_
  refine z_getI dX7_bodyOperations_1 fl_X7_51 rfl hk.1 rfl ?_
  refine z_aload_n dX7_bodyOperations_4 rfl rfl ?_
  refine z_getR dX7_bodyOperations_5 fl_X7_21 rfl hk.1 hr.2.2.1 ?_
  refine z_getI dX7_bodyOperations_8 fl_X7_41 rfl hk.2.2.2.2.2.2.1 rfl ?_
  refine z_isub dX7_bodyOperations_11 rfl ?_
  refine z_aload_n dX7_bodyOperations_12 rfl rfl ?_
  refine z_getI dX7_bodyOperations_13 fl_X7_54 rfl hk.1 rfl ?_
  refine z_isub dX7_bodyOperations_16 rfl ?_
  exact z_iret dX7_bodyOperations_17 rfl rfl rfl
set_option maxRecDepth 100000 in
set_option maxHeartbeats 4000000 in
theorem sp_stays {d : Nat} {σ : Nat → Nat → Int32} {τ : Nat → Nat → Int64} {t : Nat} (ht : t < 4) {l : Nat} (hl : l < 6) : z_MV M_X7_stays d 0 0 [.ref (tr t), .int (nI l)] (124, z_r0, σ, τ) (some (.int (b2i (σ (tr t + 12) l = nI l)))) (124, z_r0, σ, τ) := by
  refine z_MV.of pn_X7_stays (Nat.le_of_ble_eq_true rfl) (by simp [Value.category]) rfl ?_
  show z_V _ _ _ _ _ _ _ _ _ [_, _] _ _
  have hk := tr_k ht
  have hr := tr_r ht
  refine z_aload_n dX7_stays_0 rfl rfl ?_
  refine z_getR dX7_stays_1 fl_X7_25 rfl hk.1 hr.2.2.2.1 ?_
  refine z_iload_n dX7_stays_4 rfl rfl ?_
  refine z_iald dX7_stays_5 hk.2.2.2.2.2.2.2.2.2.2.2.2.1 rfl (by omega) rfl ?_
  refine z_iload_n dX7_stays_6 rfl rfl ?_
  refine z_icmp_ne (tgt := 14) dX7_stays_7 (by decide) (fun c7 => ?_) (fun c7 => ?_)
  · refine z_iconst (v := 0) dX7_stays_14 (by decide) ?_
    exact z_zret dX7_stays_15 rfl (by first | exact Or.inl rfl | exact Or.inr rfl) (by simp_all [b2i]) rfl
  · refine z_iconst (v := 1) dX7_stays_10 (by decide) ?_
    refine z_goto (tgt := 15) dX7_stays_11 (by decide) ?_
    exact z_zret dX7_stays_15 rfl (by first | exact Or.inl rfl | exact Or.inr rfl) (by simp_all [b2i]) rfl
set_option maxRecDepth 100000 in
set_option maxHeartbeats 4000000 in
theorem sp_holds {d : Nat} {σ : Nat → Nat → Int32} {τ : Nat → Nat → Int64} {t : Nat} (ht : t < 4) {g a : Nat} (hg : g < 15) (ha : σ (tr t + 7) g = nI a) (hl : a < 36) : z_MV M_X3_holds d 0 0 [.ref (tr t + 6), .int (nI g), .ref (tr t + 5)] (124, z_r0, σ, τ) (some (.int (b2i (b2i (σ (tr t + 5) a ≠ 0) = σ (tr t + 8) g)))) (124, z_r0, σ, τ) := by
  refine z_MV.of pn_X3_holds (Nat.le_of_ble_eq_true rfl) (by simp [Value.category]) rfl ?_
  show z_V _ _ _ _ _ _ _ _ _ [_, _, _] _ _
  have hk := tr_k ht
  have hr := tr_r ht
  refine z_aload_n dX3_holds_0 rfl rfl ?_
  refine z_aload_n dX3_holds_1 rfl rfl ?_
  refine z_getR dX3_holds_2 fl_X3_9 rfl hk.2.2.2.2.2.2.1 hr.2.2.2.2.2.2.2.2.2.2.2.1 ?_
  refine z_iload_n dX3_holds_5 rfl rfl ?_
  refine z_iald dX3_holds_6 hk.2.2.2.2.2.2.2.1 rfl (by omega) ha ?_
  refine z_iald dX3_holds_7 hk.2.2.2.2.2.1 rfl (by omega) rfl ?_
  refine z_if_eq (tgt := 15) dX3_holds_8 (by decide) (fun c8 => ?_) (fun c8 => ?_)
  · refine z_iconst (v := 0) dX3_holds_15 (by decide) ?_
    refine z_aload_n dX3_holds_16 rfl rfl ?_
    refine z_getR dX3_holds_17 fl_X3_15 rfl hk.2.2.2.2.2.2.1 hr.2.2.2.2.2.2.2.2.2.2.2.2.1 ?_
    refine z_iload_n dX3_holds_20 rfl rfl ?_
    refine z_zald dX3_holds_21 hk.2.2.2.2.2.2.2.2.1 rfl (by omega) rfl ?_
    refine z_icmp_ne (tgt := 29) dX3_holds_22 (by decide) (fun c22 => ?_) (fun c22 => ?_)
    · refine z_iconst (v := 0) dX3_holds_29 (by decide) ?_
      exact z_zret dX3_holds_30 rfl (by first | exact Or.inl rfl | exact Or.inr rfl) (by simp_all [b2i]) rfl
    · refine z_iconst (v := 1) dX3_holds_25 (by decide) ?_
      refine z_goto (tgt := 30) dX3_holds_26 (by decide) ?_
      exact z_zret dX3_holds_30 rfl (by first | exact Or.inl rfl | exact Or.inr rfl) (by simp_all [b2i]) rfl
  · refine z_iconst (v := 1) dX3_holds_11 (by decide) ?_
    refine z_goto (tgt := 16) dX3_holds_12 (by decide) ?_
    refine z_aload_n dX3_holds_16 rfl rfl ?_
    refine z_getR dX3_holds_17 fl_X3_15 rfl hk.2.2.2.2.2.2.1 hr.2.2.2.2.2.2.2.2.2.2.2.2.1 ?_
    refine z_iload_n dX3_holds_20 rfl rfl ?_
    refine z_zald dX3_holds_21 hk.2.2.2.2.2.2.2.2.1 rfl (by omega) rfl ?_
    refine z_icmp_ne (tgt := 29) dX3_holds_22 (by decide) (fun c22 => ?_) (fun c22 => ?_)
    · refine z_iconst (v := 0) dX3_holds_29 (by decide) ?_
      exact z_zret dX3_holds_30 rfl (by first | exact Or.inl rfl | exact Or.inr rfl) (by simp_all [b2i]) rfl
    · refine z_iconst (v := 1) dX3_holds_25 (by decide) ?_
      refine z_goto (tgt := 30) dX3_holds_26 (by decide) ?_
      exact z_zret dX3_holds_30 rfl (by first | exact Or.inl rfl | exact Or.inr rfl) (by simp_all [b2i]) rfl
