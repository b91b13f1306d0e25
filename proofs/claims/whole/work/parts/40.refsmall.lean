/-! PART 40: TraceTierModel: small methods -/
set_option maxRecDepth 100000 in
set_option maxHeartbeats 4000000 in
theorem sp_within {d : Nat} {v l h : Int32} {X : z_X} : z_MV M_X11_within d 0 0 [.int v, .int l, .int h] X (some (.int (b2i (¬ v < l ∧ ¬ h < v)))) X := by
  refine z_MV.of pn_X11_within (Nat.le_of_ble_eq_true rfl) (by simp [Value.category]) rfl ?_
  show z_V _ _ _ _ _ _ _ _ _ [_, _, _] _ _
  refine z_iload_n dX11_within_0 rfl rfl ?_
  refine z_iload_n dX11_within_1 rfl rfl ?_
  refine z_icmp_lt (tgt := 14) dX11_within_2 (by decide) (fun c2 => ?_) (fun c2 => ?_)
  · refine z_iconst (v := 0) dX11_within_14 (by decide) ?_
    exact z_zret dX11_within_15 rfl (by first | exact Or.inl rfl | exact Or.inr rfl) (by simp_all [b2i]) rfl
  · refine z_iload_n dX11_within_5 rfl rfl ?_
    refine z_iload_n dX11_within_6 rfl rfl ?_
    refine z_icmp_gt (tgt := 14) dX11_within_7 (by decide) (fun c7 => ?_) (fun c7 => ?_)
    · refine z_iconst (v := 0) dX11_within_14 (by decide) ?_
      exact z_zret dX11_within_15 rfl (by first | exact Or.inl rfl | exact Or.inr rfl) (by simp_all [b2i]) rfl
    · refine z_iconst (v := 1) dX11_within_10 (by decide) ?_
      refine z_goto (tgt := 15) dX11_within_11 (by decide) ?_
      exact z_zret dX11_within_15 rfl (by first | exact Or.inl rfl | exact Or.inr rfl) (by simp_all [b2i]) rfl
set_option maxRecDepth 100000 in
set_option maxHeartbeats 4000000 in
theorem sp_fail {d : Nat} {σ : Nat → Nat → Int32} {τ : Nat → Nat → Int64} {x : Int32} : z_MV M_X11_fail d 0 0 [.ref 92, .int x] (124, z_r0, σ, τ) (some (.int 0)) (124, z_r0, z_up σ 92 0 x, τ) := by
  refine z_MV.of pn_X11_fail (Nat.le_of_ble_eq_true rfl) (by simp [Value.category]) rfl ?_
  show z_V _ _ _ _ _ _ _ _ _ [_, _] _ _
  refine z_aload_n dX11_fail_0 rfl rfl ?_
  refine z_iload_n dX11_fail_1 rfl rfl ?_
  refine z_putI dX11_fail_2 fl_X11_111 rfl rfl (Or.inl rfl) rfl ?_
  refine z_iconst (v := 0) dX11_fail_5 (by decide) ?_
  exact z_iret dX11_fail_6 rfl rfl rfl
set_option maxRecDepth 100000 in
set_option maxHeartbeats 4000000 in
theorem sp_thrown {d : Nat} {σ : Nat → Nat → Int32} {τ : Nat → Nat → Int64} : z_MV M_X11_thrown d 0 0 [.ref 92] (124, z_r0, σ, τ) (some (.int (σ 92 0))) (124, z_r0, σ, τ) := by
  refine z_MV.of pn_X11_thrown (Nat.le_of_ble_eq_true rfl) (by simp [Value.category]) rfl ?_
  show z_V _ _ _ _ _ _ _ _ _ [_] _ _
  refine z_aload_n dX11_thrown_0 rfl rfl ?_
  refine z_getI dX11_thrown_1 fl_X11_111 rfl rfl rfl ?_
  exact z_iret dX11_thrown_4 rfl rfl rfl
set_option maxRecDepth 100000 in
set_option maxHeartbeats 4000000 in
theorem sp_rtakes {d o : Nat} {X : z_X} (ho : o < 16) : z_MV M_X11_takes (d + 1) 0 0 [.int (nI o)] X (some (.int (nI (tk o)))) X := by
  refine z_MV.of pn_X11_takes (Nat.le_of_ble_eq_true rfl) (by simp [Value.category]) rfl ?_
  show z_V _ _ _ _ _ _ _ _ _ [_] _ _
  rcases (show o = 0 ∨ o = 1 ∨ o = 2 ∨ o = 3 ∨ o = 4 ∨ o = 5 ∨ o = 6 ∨ o = 7 ∨ o = 8 ∨ o = 9 ∨ o = 10 ∨ o = 11 ∨ o = 12 ∨ o = 13 ∨ o = 14 ∨ o = 15 by omega) with rfl | rfl | rfl | rfl | rfl | rfl | rfl | rfl | rfl | rfl | rfl | rfl | rfl | rfl | rfl | rfl
  · refine z_iload_n dX11_takes_0 rfl rfl ?_
    refine z_if_eq (tgt := 21) dX11_takes_1 (by decide) (fun _ => ?_) (fun c_ => absurd (by decide +kernel) c_)
    refine z_iconst (v := 0) dX11_takes_21 (by decide) ?_
    exact z_iret dX11_takes_22 rfl (by decide +kernel) rfl
  · refine z_iload_n dX11_takes_0 rfl rfl ?_
    refine z_if_eq (tgt := 21) dX11_takes_1 (by decide) (fun c_ => absurd c_ (by decide +kernel)) (fun _ => ?_)
    refine z_iload_n dX11_takes_4 rfl rfl ?_
    refine z_iconst (v := 1) dX11_takes_5 (by decide) ?_
    refine z_icmp_eq (tgt := 21) dX11_takes_6 (by decide) (fun _ => ?_) (fun c_ => absurd (by decide +kernel) c_)
    refine z_iconst (v := 0) dX11_takes_21 (by decide) ?_
    exact z_iret dX11_takes_22 rfl (by decide +kernel) rfl
  · refine z_iload_n dX11_takes_0 rfl rfl ?_
    refine z_if_eq (tgt := 21) dX11_takes_1 (by decide) (fun c_ => absurd c_ (by decide +kernel)) (fun _ => ?_)
    refine z_iload_n dX11_takes_4 rfl rfl ?_
    refine z_iconst (v := 1) dX11_takes_5 (by decide) ?_
    refine z_icmp_eq (tgt := 21) dX11_takes_6 (by decide) (fun c_ => absurd c_ (by decide +kernel)) (fun _ => ?_)
    refine z_iload_n dX11_takes_9 rfl rfl ?_
    refine z_bipush (v := nI 13) dX11_takes_10 (by decide) ?_
    refine z_icmp_eq (tgt := 21) dX11_takes_12 (by decide) (fun c_ => absurd c_ (by decide +kernel)) (fun _ => ?_)
    refine z_iload_n dX11_takes_15 rfl rfl ?_
    refine z_bipush (v := nI 15) dX11_takes_16 (by decide) ?_
    refine z_icmp_ne (tgt := 23) dX11_takes_18 (by decide) (fun _ => ?_) (fun c_ => absurd c_ (by decide +kernel))
    refine z_iload_n dX11_takes_23 rfl rfl ?_
    refine z_iconst (v := nI 3) dX11_takes_24 (by decide) ?_
    refine z_bipush (v := nI 8) dX11_takes_25 (by decide) ?_
    refine z_cS1 dX11_takes_27 ml_X11_114 (sp_within) rfl rfl (Nat.le_of_ble_eq_true rfl) ?_
    refine z_if_ne (tgt := 39) dX11_takes_30 (by decide) (fun c_ => absurd (by decide +kernel) c_) (fun _ => ?_)
    refine z_iload_n dX11_takes_33 rfl rfl ?_
    refine z_bipush (v := nI 11) dX11_takes_34 (by decide) ?_
    refine z_icmp_ne (tgt := 43) dX11_takes_36 (by decide) (fun _ => ?_) (fun c_ => absurd c_ (by decide +kernel))
    refine z_iconst (v := 1) dX11_takes_43 (by decide) ?_
    exact z_iret dX11_takes_44 rfl (by decide +kernel) rfl
  · refine z_iload_n dX11_takes_0 rfl rfl ?_
    refine z_if_eq (tgt := 21) dX11_takes_1 (by decide) (fun c_ => absurd c_ (by decide +kernel)) (fun _ => ?_)
    refine z_iload_n dX11_takes_4 rfl rfl ?_
    refine z_iconst (v := 1) dX11_takes_5 (by decide) ?_
    refine z_icmp_eq (tgt := 21) dX11_takes_6 (by decide) (fun c_ => absurd c_ (by decide +kernel)) (fun _ => ?_)
    refine z_iload_n dX11_takes_9 rfl rfl ?_
    refine z_bipush (v := nI 13) dX11_takes_10 (by decide) ?_
    refine z_icmp_eq (tgt := 21) dX11_takes_12 (by decide) (fun c_ => absurd c_ (by decide +kernel)) (fun _ => ?_)
    refine z_iload_n dX11_takes_15 rfl rfl ?_
    refine z_bipush (v := nI 15) dX11_takes_16 (by decide) ?_
    refine z_icmp_ne (tgt := 23) dX11_takes_18 (by decide) (fun _ => ?_) (fun c_ => absurd c_ (by decide +kernel))
    refine z_iload_n dX11_takes_23 rfl rfl ?_
    refine z_iconst (v := nI 3) dX11_takes_24 (by decide) ?_
    refine z_bipush (v := nI 8) dX11_takes_25 (by decide) ?_
    refine z_cS1 dX11_takes_27 ml_X11_114 (sp_within) rfl rfl (Nat.le_of_ble_eq_true rfl) ?_
    refine z_if_ne (tgt := 39) dX11_takes_30 (by decide) (fun _ => ?_) (fun c_ => absurd c_ (by decide +kernel))
    refine z_iconst (v := nI 2) dX11_takes_39 (by decide) ?_
    refine z_goto (tgt := 44) dX11_takes_40 (by decide) ?_
    exact z_iret dX11_takes_44 rfl (by decide +kernel) rfl
  · refine z_iload_n dX11_takes_0 rfl rfl ?_
    refine z_if_eq (tgt := 21) dX11_takes_1 (by decide) (fun c_ => absurd c_ (by decide +kernel)) (fun _ => ?_)
    refine z_iload_n dX11_takes_4 rfl rfl ?_
    refine z_iconst (v := 1) dX11_takes_5 (by decide) ?_
    refine z_icmp_eq (tgt := 21) dX11_takes_6 (by decide) (fun c_ => absurd c_ (by decide +kernel)) (fun _ => ?_)
    refine z_iload_n dX11_takes_9 rfl rfl ?_
    refine z_bipush (v := nI 13) dX11_takes_10 (by decide) ?_
    refine z_icmp_eq (tgt := 21) dX11_takes_12 (by decide) (fun c_ => absurd c_ (by decide +kernel)) (fun _ => ?_)
    refine z_iload_n dX11_takes_15 rfl rfl ?_
    refine z_bipush (v := nI 15) dX11_takes_16 (by decide) ?_
    refine z_icmp_ne (tgt := 23) dX11_takes_18 (by decide) (fun _ => ?_) (fun c_ => absurd c_ (by decide +kernel))
    refine z_iload_n dX11_takes_23 rfl rfl ?_
    refine z_iconst (v := nI 3) dX11_takes_24 (by decide) ?_
    refine z_bipush (v := nI 8) dX11_takes_25 (by decide) ?_
    refine z_cS1 dX11_takes_27 ml_X11_114 (sp_within) rfl rfl (Nat.le_of_ble_eq_true rfl) ?_
    refine z_if_ne (tgt := 39) dX11_takes_30 (by decide) (fun _ => ?_) (fun c_ => absurd c_ (by decide +kernel))
    refine z_iconst (v := nI 2) dX11_takes_39 (by decide) ?_
    refine z_goto (tgt := 44) dX11_takes_40 (by decide) ?_
    exact z_iret dX11_takes_44 rfl (by decide +kernel) rfl
  · refine z_iload_n dX11_takes_0 rfl rfl ?_
    refine z_if_eq (tgt := 21) dX11_takes_1 (by decide) (fun c_ => absurd c_ (by decide +kernel)) (fun _ => ?_)
    refine z_iload_n dX11_takes_4 rfl rfl ?_
    refine z_iconst (v := 1) dX11_takes_5 (by decide) ?_
    refine z_icmp_eq (tgt := 21) dX11_takes_6 (by decide) (fun c_ => absurd c_ (by decide +kernel)) (fun _ => ?_)
    refine z_iload_n dX11_takes_9 rfl rfl ?_
    refine z_bipush (v := nI 13) dX11_takes_10 (by decide) ?_
    refine z_icmp_eq (tgt := 21) dX11_takes_12 (by decide) (fun c_ => absurd c_ (by decide +kernel)) (fun _ => ?_)
    refine z_iload_n dX11_takes_15 rfl rfl ?_
    refine z_bipush (v := nI 15) dX11_takes_16 (by decide) ?_
    refine z_icmp_ne (tgt := 23) dX11_takes_18 (by decide) (fun _ => ?_) (fun c_ => absurd c_ (by decide +kernel))
    refine z_iload_n dX11_takes_23 rfl rfl ?_
    refine z_iconst (v := nI 3) dX11_takes_24 (by decide) ?_
    refine z_bipush (v := nI 8) dX11_takes_25 (by decide) ?_
    refine z_cS1 dX11_takes_27 ml_X11_114 (sp_within) rfl rfl (Nat.le_of_ble_eq_true rfl) ?_
    refine z_if_ne (tgt := 39) dX11_takes_30 (by decide) (fun _ => ?_) (fun c_ => absurd c_ (by decide +kernel))
    refine z_iconst (v := nI 2) dX11_takes_39 (by decide) ?_
    refine z_goto (tgt := 44) dX11_takes_40 (by decide) ?_
    exact z_iret dX11_takes_44 rfl (by decide +kernel) rfl
  · refine z_iload_n dX11_takes_0 rfl rfl ?_
    refine z_if_eq (tgt := 21) dX11_takes_1 (by decide) (fun c_ => absurd c_ (by decide +kernel)) (fun _ => ?_)
    refine z_iload_n dX11_takes_4 rfl rfl ?_
    refine z_iconst (v := 1) dX11_takes_5 (by decide) ?_
    refine z_icmp_eq (tgt := 21) dX11_takes_6 (by decide) (fun c_ => absurd c_ (by decide +kernel)) (fun _ => ?_)
    refine z_iload_n dX11_takes_9 rfl rfl ?_
    refine z_bipush (v := nI 13) dX11_takes_10 (by decide) ?_
    refine z_icmp_eq (tgt := 21) dX11_takes_12 (by decide) (fun c_ => absurd c_ (by decide +kernel)) (fun _ => ?_)
    refine z_iload_n dX11_takes_15 rfl rfl ?_
    refine z_bipush (v := nI 15) dX11_takes_16 (by decide) ?_
    refine z_icmp_ne (tgt := 23) dX11_takes_18 (by decide) (fun _ => ?_) (fun c_ => absurd c_ (by decide +kernel))
    refine z_iload_n dX11_takes_23 rfl rfl ?_
    refine z_iconst (v := nI 3) dX11_takes_24 (by decide) ?_
    refine z_bipush (v := nI 8) dX11_takes_25 (by decide) ?_
    refine z_cS1 dX11_takes_27 ml_X11_114 (sp_within) rfl rfl (Nat.le_of_ble_eq_true rfl) ?_
    refine z_if_ne (tgt := 39) dX11_takes_30 (by decide) (fun _ => ?_) (fun c_ => absurd c_ (by decide +kernel))
    refine z_iconst (v := nI 2) dX11_takes_39 (by decide) ?_
    refine z_goto (tgt := 44) dX11_takes_40 (by decide) ?_
    exact z_iret dX11_takes_44 rfl (by decide +kernel) rfl
  · refine z_iload_n dX11_takes_0 rfl rfl ?_
    refine z_if_eq (tgt := 21) dX11_takes_1 (by decide) (fun c_ => absurd c_ (by decide +kernel)) (fun _ => ?_)
    refine z_iload_n dX11_takes_4 rfl rfl ?_
    refine z_iconst (v := 1) dX11_takes_5 (by decide) ?_
    refine z_icmp_eq (tgt := 21) dX11_takes_6 (by decide) (fun c_ => absurd c_ (by decide +kernel)) (fun _ => ?_)
    refine z_iload_n dX11_takes_9 rfl rfl ?_
    refine z_bipush (v := nI 13) dX11_takes_10 (by decide) ?_
    refine z_icmp_eq (tgt := 21) dX11_takes_12 (by decide) (fun c_ => absurd c_ (by decide +kernel)) (fun _ => ?_)
    refine z_iload_n dX11_takes_15 rfl rfl ?_
    refine z_bipush (v := nI 15) dX11_takes_16 (by decide) ?_
    refine z_icmp_ne (tgt := 23) dX11_takes_18 (by decide) (fun _ => ?_) (fun c_ => absurd c_ (by decide +kernel))
    refine z_iload_n dX11_takes_23 rfl rfl ?_
    refine z_iconst (v := nI 3) dX11_takes_24 (by decide) ?_
    refine z_bipush (v := nI 8) dX11_takes_25 (by decide) ?_
    refine z_cS1 dX11_takes_27 ml_X11_114 (sp_within) rfl rfl (Nat.le_of_ble_eq_true rfl) ?_
    refine z_if_ne (tgt := 39) dX11_takes_30 (by decide) (fun _ => ?_) (fun c_ => absurd c_ (by decide +kernel))
    refine z_iconst (v := nI 2) dX11_takes_39 (by decide) ?_
    refine z_goto (tgt := 44) dX11_takes_40 (by decide) ?_
    exact z_iret dX11_takes_44 rfl (by decide +kernel) rfl
  · refine z_iload_n dX11_takes_0 rfl rfl ?_
    refine z_if_eq (tgt := 21) dX11_takes_1 (by decide) (fun c_ => absurd c_ (by decide +kernel)) (fun _ => ?_)
    refine z_iload_n dX11_takes_4 rfl rfl ?_
    refine z_iconst (v := 1) dX11_takes_5 (by decide) ?_
    refine z_icmp_eq (tgt := 21) dX11_takes_6 (by decide) (fun c_ => absurd c_ (by decide +kernel)) (fun _ => ?_)
    refine z_iload_n dX11_takes_9 rfl rfl ?_
    refine z_bipush (v := nI 13) dX11_takes_10 (by decide) ?_
    refine z_icmp_eq (tgt := 21) dX11_takes_12 (by decide) (fun c_ => absurd c_ (by decide +kernel)) (fun _ => ?_)
    refine z_iload_n dX11_takes_15 rfl rfl ?_
    refine z_bipush (v := nI 15) dX11_takes_16 (by decide) ?_
    refine z_icmp_ne (tgt := 23) dX11_takes_18 (by decide) (fun _ => ?_) (fun c_ => absurd c_ (by decide +kernel))
    refine z_iload_n dX11_takes_23 rfl rfl ?_
    refine z_iconst (v := nI 3) dX11_takes_24 (by decide) ?_
    refine z_bipush (v := nI 8) dX11_takes_25 (by decide) ?_
    refine z_cS1 dX11_takes_27 ml_X11_114 (sp_within) rfl rfl (Nat.le_of_ble_eq_true rfl) ?_
    refine z_if_ne (tgt := 39) dX11_takes_30 (by decide) (fun _ => ?_) (fun c_ => absurd c_ (by decide +kernel))
    refine z_iconst (v := nI 2) dX11_takes_39 (by decide) ?_
    refine z_goto (tgt := 44) dX11_takes_40 (by decide) ?_
    exact z_iret dX11_takes_44 rfl (by decide +kernel) rfl
  · refine z_iload_n dX11_takes_0 rfl rfl ?_
    refine z_if_eq (tgt := 21) dX11_takes_1 (by decide) (fun c_ => absurd c_ (by decide +kernel)) (fun _ => ?_)
    refine z_iload_n dX11_takes_4 rfl rfl ?_
    refine z_iconst (v := 1) dX11_takes_5 (by decide) ?_
    refine z_icmp_eq (tgt := 21) dX11_takes_6 (by decide) (fun c_ => absurd c_ (by decide +kernel)) (fun _ => ?_)
    refine z_iload_n dX11_takes_9 rfl rfl ?_
    refine z_bipush (v := nI 13) dX11_takes_10 (by decide) ?_
    refine z_icmp_eq (tgt := 21) dX11_takes_12 (by decide) (fun c_ => absurd c_ (by decide +kernel)) (fun _ => ?_)
    refine z_iload_n dX11_takes_15 rfl rfl ?_
    refine z_bipush (v := nI 15) dX11_takes_16 (by decide) ?_
    refine z_icmp_ne (tgt := 23) dX11_takes_18 (by decide) (fun _ => ?_) (fun c_ => absurd c_ (by decide +kernel))
    refine z_iload_n dX11_takes_23 rfl rfl ?_
    refine z_iconst (v := nI 3) dX11_takes_24 (by decide) ?_
    refine z_bipush (v := nI 8) dX11_takes_25 (by decide) ?_
    refine z_cS1 dX11_takes_27 ml_X11_114 (sp_within) rfl rfl (Nat.le_of_ble_eq_true rfl) ?_
    refine z_if_ne (tgt := 39) dX11_takes_30 (by decide) (fun c_ => absurd (by decide +kernel) c_) (fun _ => ?_)
    refine z_iload_n dX11_takes_33 rfl rfl ?_
    refine z_bipush (v := nI 11) dX11_takes_34 (by decide) ?_
    refine z_icmp_ne (tgt := 43) dX11_takes_36 (by decide) (fun _ => ?_) (fun c_ => absurd c_ (by decide +kernel))
    refine z_iconst (v := 1) dX11_takes_43 (by decide) ?_
    exact z_iret dX11_takes_44 rfl (by decide +kernel) rfl
  · refine z_iload_n dX11_takes_0 rfl rfl ?_
    refine z_if_eq (tgt := 21) dX11_takes_1 (by decide) (fun c_ => absurd c_ (by decide +kernel)) (fun _ => ?_)
    refine z_iload_n dX11_takes_4 rfl rfl ?_
    refine z_iconst (v := 1) dX11_takes_5 (by decide) ?_
    refine z_icmp_eq (tgt := 21) dX11_takes_6 (by decide) (fun c_ => absurd c_ (by decide +kernel)) (fun _ => ?_)
    refine z_iload_n dX11_takes_9 rfl rfl ?_
    refine z_bipush (v := nI 13) dX11_takes_10 (by decide) ?_
    refine z_icmp_eq (tgt := 21) dX11_takes_12 (by decide) (fun c_ => absurd c_ (by decide +kernel)) (fun _ => ?_)
    refine z_iload_n dX11_takes_15 rfl rfl ?_
    refine z_bipush (v := nI 15) dX11_takes_16 (by decide) ?_
    refine z_icmp_ne (tgt := 23) dX11_takes_18 (by decide) (fun _ => ?_) (fun c_ => absurd c_ (by decide +kernel))
    refine z_iload_n dX11_takes_23 rfl rfl ?_
    refine z_iconst (v := nI 3) dX11_takes_24 (by decide) ?_
    refine z_bipush (v := nI 8) dX11_takes_25 (by decide) ?_
    refine z_cS1 dX11_takes_27 ml_X11_114 (sp_within) rfl rfl (Nat.le_of_ble_eq_true rfl) ?_
    refine z_if_ne (tgt := 39) dX11_takes_30 (by decide) (fun c_ => absurd (by decide +kernel) c_) (fun _ => ?_)
    refine z_iload_n dX11_takes_33 rfl rfl ?_
    refine z_bipush (v := nI 11) dX11_takes_34 (by decide) ?_
    refine z_icmp_ne (tgt := 43) dX11_takes_36 (by decide) (fun _ => ?_) (fun c_ => absurd c_ (by decide +kernel))
    refine z_iconst (v := 1) dX11_takes_43 (by decide) ?_
    exact z_iret dX11_takes_44 rfl (by decide +kernel) rfl
  · refine z_iload_n dX11_takes_0 rfl rfl ?_
    refine z_if_eq (tgt := 21) dX11_takes_1 (by decide) (fun c_ => absurd c_ (by decide +kernel)) (fun _ => ?_)
    refine z_iload_n dX11_takes_4 rfl rfl ?_
    refine z_iconst (v := 1) dX11_takes_5 (by decide) ?_
    refine z_icmp_eq (tgt := 21) dX11_takes_6 (by decide) (fun c_ => absurd c_ (by decide +kernel)) (fun _ => ?_)
    refine z_iload_n dX11_takes_9 rfl rfl ?_
    refine z_bipush (v := nI 13) dX11_takes_10 (by decide) ?_
    refine z_icmp_eq (tgt := 21) dX11_takes_12 (by decide) (fun c_ => absurd c_ (by decide +kernel)) (fun _ => ?_)
    refine z_iload_n dX11_takes_15 rfl rfl ?_
    refine z_bipush (v := nI 15) dX11_takes_16 (by decide) ?_
    refine z_icmp_ne (tgt := 23) dX11_takes_18 (by decide) (fun _ => ?_) (fun c_ => absurd c_ (by decide +kernel))
    refine z_iload_n dX11_takes_23 rfl rfl ?_
    refine z_iconst (v := nI 3) dX11_takes_24 (by decide) ?_
    refine z_bipush (v := nI 8) dX11_takes_25 (by decide) ?_
    refine z_cS1 dX11_takes_27 ml_X11_114 (sp_within) rfl rfl (Nat.le_of_ble_eq_true rfl) ?_
    refine z_if_ne (tgt := 39) dX11_takes_30 (by decide) (fun c_ => absurd (by decide +kernel) c_) (fun _ => ?_)
    refine z_iload_n dX11_takes_33 rfl rfl ?_
    refine z_bipush (v := nI 11) dX11_takes_34 (by decide) ?_
    refine z_icmp_ne (tgt := 43) dX11_takes_36 (by decide) (fun c_ => absurd (by decide +kernel) c_) (fun _ => ?_)
    refine z_iconst (v := nI 2) dX11_takes_39 (by decide) ?_
    refine z_goto (tgt := 44) dX11_takes_40 (by decide) ?_
    exact z_iret dX11_takes_44 rfl (by decide +kernel) rfl
  · refine z_iload_n dX11_takes_0 rfl rfl ?_
    refine z_if_eq (tgt := 21) dX11_takes_1 (by decide) (fun c_ => absurd c_ (by decide +kernel)) (fun _ => ?_)
    refine z_iload_n dX11_takes_4 rfl rfl ?_
    refine z_iconst (v := 1) dX11_takes_5 (by decide) ?_
    refine z_icmp_eq (tgt := 21) dX11_takes_6 (by decide) (fun c_ => absurd c_ (by decide +kernel)) (fun _ => ?_)
    refine z_iload_n dX11_takes_9 rfl rfl ?_
    refine z_bipush (v := nI 13) dX11_takes_10 (by decide) ?_
    refine z_icmp_eq (tgt := 21) dX11_takes_12 (by decide) (fun c_ => absurd c_ (by decide +kernel)) (fun _ => ?_)
    refine z_iload_n dX11_takes_15 rfl rfl ?_
    refine z_bipush (v := nI 15) dX11_takes_16 (by decide) ?_
    refine z_icmp_ne (tgt := 23) dX11_takes_18 (by decide) (fun _ => ?_) (fun c_ => absurd c_ (by decide +kernel))
    refine z_iload_n dX11_takes_23 rfl rfl ?_
    refine z_iconst (v := nI 3) dX11_takes_24 (by decide) ?_
    refine z_bipush (v := nI 8) dX11_takes_25 (by decide) ?_
    refine z_cS1 dX11_takes_27 ml_X11_114 (sp_within) rfl rfl (Nat.le_of_ble_eq_true rfl) ?_
    refine z_if_ne (tgt := 39) dX11_takes_30 (by decide) (fun c_ => absurd (by decide +kernel) c_) (fun _ => ?_)
    refine z_iload_n dX11_takes_33 rfl rfl ?_
    refine z_bipush (v := nI 11) dX11_takes_34 (by decide) ?_
    refine z_icmp_ne (tgt := 43) dX11_takes_36 (by decide) (fun _ => ?_) (fun c_ => absurd c_ (by decide +kernel))
    refine z_iconst (v := 1) dX11_takes_43 (by decide) ?_
    exact z_iret dX11_takes_44 rfl (by decide +kernel) rfl
  · refine z_iload_n dX11_takes_0 rfl rfl ?_
    refine z_if_eq (tgt := 21) dX11_takes_1 (by decide) (fun c_ => absurd c_ (by decide +kernel)) (fun _ => ?_)
    refine z_iload_n dX11_takes_4 rfl rfl ?_
    refine z_iconst (v := 1) dX11_takes_5 (by decide) ?_
    refine z_icmp_eq (tgt := 21) dX11_takes_6 (by decide) (fun c_ => absurd c_ (by decide +kernel)) (fun _ => ?_)
    refine z_iload_n dX11_takes_9 rfl rfl ?_
    refine z_bipush (v := nI 13) dX11_takes_10 (by decide) ?_
    refine z_icmp_eq (tgt := 21) dX11_takes_12 (by decide) (fun _ => ?_) (fun c_ => absurd (by decide +kernel) c_)
    refine z_iconst (v := 0) dX11_takes_21 (by decide) ?_
    exact z_iret dX11_takes_22 rfl (by decide +kernel) rfl
  · refine z_iload_n dX11_takes_0 rfl rfl ?_
    refine z_if_eq (tgt := 21) dX11_takes_1 (by decide) (fun c_ => absurd c_ (by decide +kernel)) (fun _ => ?_)
    refine z_iload_n dX11_takes_4 rfl rfl ?_
    refine z_iconst (v := 1) dX11_takes_5 (by decide) ?_
    refine z_icmp_eq (tgt := 21) dX11_takes_6 (by decide) (fun c_ => absurd c_ (by decide +kernel)) (fun _ => ?_)
    refine z_iload_n dX11_takes_9 rfl rfl ?_
    refine z_bipush (v := nI 13) dX11_takes_10 (by decide) ?_
    refine z_icmp_eq (tgt := 21) dX11_takes_12 (by decide) (fun c_ => absurd c_ (by decide +kernel)) (fun _ => ?_)
    refine z_iload_n dX11_takes_15 rfl rfl ?_
    refine z_bipush (v := nI 15) dX11_takes_16 (by decide) ?_
    refine z_icmp_ne (tgt := 23) dX11_takes_18 (by decide) (fun _ => ?_) (fun c_ => absurd c_ (by decide +kernel))
    refine z_iload_n dX11_takes_23 rfl rfl ?_
    refine z_iconst (v := nI 3) dX11_takes_24 (by decide) ?_
    refine z_bipush (v := nI 8) dX11_takes_25 (by decide) ?_
    refine z_cS1 dX11_takes_27 ml_X11_114 (sp_within) rfl rfl (Nat.le_of_ble_eq_true rfl) ?_
    refine z_if_ne (tgt := 39) dX11_takes_30 (by decide) (fun c_ => absurd (by decide +kernel) c_) (fun _ => ?_)
    refine z_iload_n dX11_takes_33 rfl rfl ?_
    refine z_bipush (v := nI 11) dX11_takes_34 (by decide) ?_
    refine z_icmp_ne (tgt := 43) dX11_takes_36 (by decide) (fun _ => ?_) (fun c_ => absurd c_ (by decide +kernel))
    refine z_iconst (v := 1) dX11_takes_43 (by decide) ?_
    exact z_iret dX11_takes_44 rfl (by decide +kernel) rfl
  · refine z_iload_n dX11_takes_0 rfl rfl ?_
    refine z_if_eq (tgt := 21) dX11_takes_1 (by decide) (fun c_ => absurd c_ (by decide +kernel)) (fun _ => ?_)
    refine z_iload_n dX11_takes_4 rfl rfl ?_
    refine z_iconst (v := 1) dX11_takes_5 (by decide) ?_
    refine z_icmp_eq (tgt := 21) dX11_takes_6 (by decide) (fun c_ => absurd c_ (by decide +kernel)) (fun _ => ?_)
    refine z_iload_n dX11_takes_9 rfl rfl ?_
    refine z_bipush (v := nI 13) dX11_takes_10 (by decide) ?_
    refine z_icmp_eq (tgt := 21) dX11_takes_12 (by decide) (fun c_ => absurd c_ (by decide +kernel)) (fun _ => ?_)
    refine z_iload_n dX11_takes_15 rfl rfl ?_
    refine z_bipush (v := nI 15) dX11_takes_16 (by decide) ?_
    refine z_icmp_ne (tgt := 23) dX11_takes_18 (by decide) (fun c_ => absurd (by decide +kernel) c_) (fun _ => ?_)
    refine z_iconst (v := 0) dX11_takes_21 (by decide) ?_
    exact z_iret dX11_takes_22 rfl (by decide +kernel) rfl
set_option maxRecDepth 100000 in
set_option maxHeartbeats 4000000 in
theorem sp_rleaves {d o : Nat} {X : z_X} (ho : o < 16) : z_MV M_X11_leaves (d + 1) 0 0 [.int (nI o)] X (some (.int (nI (gv o)))) X := by
  refine z_MV.of pn_X11_leaves (Nat.le_of_ble_eq_true rfl) (by simp [Value.category]) rfl ?_
  show z_V _ _ _ _ _ _ _ _ _ [_] _ _
  rcases (show o = 0 ∨ o = 1 ∨ o = 2 ∨ o = 3 ∨ o = 4 ∨ o = 5 ∨ o = 6 ∨ o = 7 ∨ o = 8 ∨ o = 9 ∨ o = 10 ∨ o = 11 ∨ o = 12 ∨ o = 13 ∨ o = 14 ∨ o = 15 by omega) with rfl | rfl | rfl | rfl | rfl | rfl | rfl | rfl | rfl | rfl | rfl | rfl | rfl | rfl | rfl | rfl
  · refine z_iload_n dX11_leaves_0 rfl rfl ?_
    refine z_if_eq (tgt := 19) dX11_leaves_1 (by decide) (fun _ => ?_) (fun c_ => absurd (by decide +kernel) c_)
    refine z_iconst (v := 1) dX11_leaves_19 (by decide) ?_
    exact z_iret dX11_leaves_20 rfl (by decide +kernel) rfl
  · refine z_iload_n dX11_leaves_0 rfl rfl ?_
    refine z_if_eq (tgt := 19) dX11_leaves_1 (by decide) (fun c_ => absurd c_ (by decide +kernel)) (fun _ => ?_)
    refine z_iload_n dX11_leaves_4 rfl rfl ?_
    refine z_iconst (v := 1) dX11_leaves_5 (by decide) ?_
    refine z_icmp_eq (tgt := 19) dX11_leaves_6 (by decide) (fun _ => ?_) (fun c_ => absurd (by decide +kernel) c_)
    refine z_iconst (v := 1) dX11_leaves_19 (by decide) ?_
    exact z_iret dX11_leaves_20 rfl (by decide +kernel) rfl
  · refine z_iload_n dX11_leaves_0 rfl rfl ?_
    refine z_if_eq (tgt := 19) dX11_leaves_1 (by decide) (fun c_ => absurd c_ (by decide +kernel)) (fun _ => ?_)
    refine z_iload_n dX11_leaves_4 rfl rfl ?_
    refine z_iconst (v := 1) dX11_leaves_5 (by decide) ?_
    refine z_icmp_eq (tgt := 19) dX11_leaves_6 (by decide) (fun c_ => absurd c_ (by decide +kernel)) (fun _ => ?_)
    refine z_iload_n dX11_leaves_9 rfl rfl ?_
    refine z_iconst (v := nI 3) dX11_leaves_10 (by decide) ?_
    refine z_bipush (v := nI 8) dX11_leaves_11 (by decide) ?_
    refine z_cS1 dX11_leaves_13 ml_X11_114 (sp_within) rfl rfl (Nat.le_of_ble_eq_true rfl) ?_
    refine z_if_eq (tgt := 21) dX11_leaves_16 (by decide) (fun _ => ?_) (fun c_ => absurd (by decide +kernel) c_)
    refine z_iload_n dX11_leaves_21 rfl rfl ?_
    refine z_bipush (v := nI 9) dX11_leaves_22 (by decide) ?_
    refine z_icmp_eq (tgt := 33) dX11_leaves_24 (by decide) (fun c_ => absurd c_ (by decide +kernel)) (fun _ => ?_)
    refine z_iload_n dX11_leaves_27 rfl rfl ?_
    refine z_bipush (v := nI 11) dX11_leaves_28 (by decide) ?_
    refine z_icmp_ne (tgt := 37) dX11_leaves_30 (by decide) (fun _ => ?_) (fun c_ => absurd c_ (by decide +kernel))
    refine z_iconst (v := 0) dX11_leaves_37 (by decide) ?_
    exact z_iret dX11_leaves_38 rfl (by decide +kernel) rfl
  · refine z_iload_n dX11_leaves_0 rfl rfl ?_
    refine z_if_eq (tgt := 19) dX11_leaves_1 (by decide) (fun c_ => absurd c_ (by decide +kernel)) (fun _ => ?_)
    refine z_iload_n dX11_leaves_4 rfl rfl ?_
    refine z_iconst (v := 1) dX11_leaves_5 (by decide) ?_
    refine z_icmp_eq (tgt := 19) dX11_leaves_6 (by decide) (fun c_ => absurd c_ (by decide +kernel)) (fun _ => ?_)
    refine z_iload_n dX11_leaves_9 rfl rfl ?_
    refine z_iconst (v := nI 3) dX11_leaves_10 (by decide) ?_
    refine z_bipush (v := nI 8) dX11_leaves_11 (by decide) ?_
    refine z_cS1 dX11_leaves_13 ml_X11_114 (sp_within) rfl rfl (Nat.le_of_ble_eq_true rfl) ?_
    refine z_if_eq (tgt := 21) dX11_leaves_16 (by decide) (fun c_ => absurd c_ (by decide +kernel)) (fun _ => ?_)
    refine z_iconst (v := 1) dX11_leaves_19 (by decide) ?_
    exact z_iret dX11_leaves_20 rfl (by decide +kernel) rfl
  · refine z_iload_n dX11_leaves_0 rfl rfl ?_
    refine z_if_eq (tgt := 19) dX11_leaves_1 (by decide) (fun c_ => absurd c_ (by decide +kernel)) (fun _ => ?_)
    refine z_iload_n dX11_leaves_4 rfl rfl ?_
    refine z_iconst (v := 1) dX11_leaves_5 (by decide) ?_
    refine z_icmp_eq (tgt := 19) dX11_leaves_6 (by decide) (fun c_ => absurd c_ (by decide +kernel)) (fun _ => ?_)
    refine z_iload_n dX11_leaves_9 rfl rfl ?_
    refine z_iconst (v := nI 3) dX11_leaves_10 (by decide) ?_
    refine z_bipush (v := nI 8) dX11_leaves_11 (by decide) ?_
    refine z_cS1 dX11_leaves_13 ml_X11_114 (sp_within) rfl rfl (Nat.le_of_ble_eq_true rfl) ?_
    refine z_if_eq (tgt := 21) dX11_leaves_16 (by decide) (fun c_ => absurd c_ (by decide +kernel)) (fun _ => ?_)
    refine z_iconst (v := 1) dX11_leaves_19 (by decide) ?_
    exact z_iret dX11_leaves_20 rfl (by decide +kernel) rfl
  · refine z_iload_n dX11_leaves_0 rfl rfl ?_
    refine z_if_eq (tgt := 19) dX11_leaves_1 (by decide) (fun c_ => absurd c_ (by decide +kernel)) (fun _ => ?_)
    refine z_iload_n dX11_leaves_4 rfl rfl ?_
    refine z_iconst (v := 1) dX11_leaves_5 (by decide) ?_
    refine z_icmp_eq (tgt := 19) dX11_leaves_6 (by decide) (fun c_ => absurd c_ (by decide +kernel)) (fun _ => ?_)
    refine z_iload_n dX11_leaves_9 rfl rfl ?_
    refine z_iconst (v := nI 3) dX11_leaves_10 (by decide) ?_
    refine z_bipush (v := nI 8) dX11_leaves_11 (by decide) ?_
    refine z_cS1 dX11_leaves_13 ml_X11_114 (sp_within) rfl rfl (Nat.le_of_ble_eq_true rfl) ?_
    refine z_if_eq (tgt := 21) dX11_leaves_16 (by decide) (fun c_ => absurd c_ (by decide +kernel)) (fun _ => ?_)
    refine z_iconst (v := 1) dX11_leaves_19 (by decide) ?_
    exact z_iret dX11_leaves_20 rfl (by decide +kernel) rfl
  · refine z_iload_n dX11_leaves_0 rfl rfl ?_
    refine z_if_eq (tgt := 19) dX11_leaves_1 (by decide) (fun c_ => absurd c_ (by decide +kernel)) (fun _ => ?_)
    refine z_iload_n dX11_leaves_4 rfl rfl ?_
    refine z_iconst (v := 1) dX11_leaves_5 (by decide) ?_
    refine z_icmp_eq (tgt := 19) dX11_leaves_6 (by decide) (fun c_ => absurd c_ (by decide +kernel)) (fun _ => ?_)
    refine z_iload_n dX11_leaves_9 rfl rfl ?_
    refine z_iconst (v := nI 3) dX11_leaves_10 (by decide) ?_
    refine z_bipush (v := nI 8) dX11_leaves_11 (by decide) ?_
    refine z_cS1 dX11_leaves_13 ml_X11_114 (sp_within) rfl rfl (Nat.le_of_ble_eq_true rfl) ?_
    refine z_if_eq (tgt := 21) dX11_leaves_16 (by decide) (fun c_ => absurd c_ (by decide +kernel)) (fun _ => ?_)
    refine z_iconst (v := 1) dX11_leaves_19 (by decide) ?_
    exact z_iret dX11_leaves_20 rfl (by decide +kernel) rfl
  · refine z_iload_n dX11_leaves_0 rfl rfl ?_
    refine z_if_eq (tgt := 19) dX11_leaves_1 (by decide) (fun c_ => absurd c_ (by decide +kernel)) (fun _ => ?_)
    refine z_iload_n dX11_leaves_4 rfl rfl ?_
    refine z_iconst (v := 1) dX11_leaves_5 (by decide) ?_
    refine z_icmp_eq (tgt := 19) dX11_leaves_6 (by decide) (fun c_ => absurd c_ (by decide +kernel)) (fun _ => ?_)
    refine z_iload_n dX11_leaves_9 rfl rfl ?_
    refine z_iconst (v := nI 3) dX11_leaves_10 (by decide) ?_
    refine z_bipush (v := nI 8) dX11_leaves_11 (by decide) ?_
    refine z_cS1 dX11_leaves_13 ml_X11_114 (sp_within) rfl rfl (Nat.le_of_ble_eq_true rfl) ?_
    refine z_if_eq (tgt := 21) dX11_leaves_16 (by decide) (fun c_ => absurd c_ (by decide +kernel)) (fun _ => ?_)
    refine z_iconst (v := 1) dX11_leaves_19 (by decide) ?_
    exact z_iret dX11_leaves_20 rfl (by decide +kernel) rfl
  · refine z_iload_n dX11_leaves_0 rfl rfl ?_
    refine z_if_eq (tgt := 19) dX11_leaves_1 (by decide) (fun c_ => absurd c_ (by decide +kernel)) (fun _ => ?_)
    refine z_iload_n dX11_leaves_4 rfl rfl ?_
    refine z_iconst (v := 1) dX11_leaves_5 (by decide) ?_
    refine z_icmp_eq (tgt := 19) dX11_leaves_6 (by decide) (fun c_ => absurd c_ (by decide +kernel)) (fun _ => ?_)
    refine z_iload_n dX11_leaves_9 rfl rfl ?_
    refine z_iconst (v := nI 3) dX11_leaves_10 (by decide) ?_
    refine z_bipush (v := nI 8) dX11_leaves_11 (by decide) ?_
    refine z_cS1 dX11_leaves_13 ml_X11_114 (sp_within) rfl rfl (Nat.le_of_ble_eq_true rfl) ?_
    refine z_if_eq (tgt := 21) dX11_leaves_16 (by decide) (fun c_ => absurd c_ (by decide +kernel)) (fun _ => ?_)
    refine z_iconst (v := 1) dX11_leaves_19 (by decide) ?_
    exact z_iret dX11_leaves_20 rfl (by decide +kernel) rfl
  · refine z_iload_n dX11_leaves_0 rfl rfl ?_
    refine z_if_eq (tgt := 19) dX11_leaves_1 (by decide) (fun c_ => absurd c_ (by decide +kernel)) (fun _ => ?_)
    refine z_iload_n dX11_leaves_4 rfl rfl ?_
    refine z_iconst (v := 1) dX11_leaves_5 (by decide) ?_
    refine z_icmp_eq (tgt := 19) dX11_leaves_6 (by decide) (fun c_ => absurd c_ (by decide +kernel)) (fun _ => ?_)
    refine z_iload_n dX11_leaves_9 rfl rfl ?_
    refine z_iconst (v := nI 3) dX11_leaves_10 (by decide) ?_
    refine z_bipush (v := nI 8) dX11_leaves_11 (by decide) ?_
    refine z_cS1 dX11_leaves_13 ml_X11_114 (sp_within) rfl rfl (Nat.le_of_ble_eq_true rfl) ?_
    refine z_if_eq (tgt := 21) dX11_leaves_16 (by decide) (fun _ => ?_) (fun c_ => absurd (by decide +kernel) c_)
    refine z_iload_n dX11_leaves_21 rfl rfl ?_
    refine z_bipush (v := nI 9) dX11_leaves_22 (by decide) ?_
    refine z_icmp_eq (tgt := 33) dX11_leaves_24 (by decide) (fun _ => ?_) (fun c_ => absurd (by decide +kernel) c_)
    refine z_iconst (v := nI 2) dX11_leaves_33 (by decide) ?_
    refine z_goto (tgt := 38) dX11_leaves_34 (by decide) ?_
    exact z_iret dX11_leaves_38 rfl (by decide +kernel) rfl
  · refine z_iload_n dX11_leaves_0 rfl rfl ?_
    refine z_if_eq (tgt := 19) dX11_leaves_1 (by decide) (fun c_ => absurd c_ (by decide +kernel)) (fun _ => ?_)
    refine z_iload_n dX11_leaves_4 rfl rfl ?_
    refine z_iconst (v := 1) dX11_leaves_5 (by decide) ?_
    refine z_icmp_eq (tgt := 19) dX11_leaves_6 (by decide) (fun c_ => absurd c_ (by decide +kernel)) (fun _ => ?_)
    refine z_iload_n dX11_leaves_9 rfl rfl ?_
    refine z_iconst (v := nI 3) dX11_leaves_10 (by decide) ?_
    refine z_bipush (v := nI 8) dX11_leaves_11 (by decide) ?_
    refine z_cS1 dX11_leaves_13 ml_X11_114 (sp_within) rfl rfl (Nat.le_of_ble_eq_true rfl) ?_
    refine z_if_eq (tgt := 21) dX11_leaves_16 (by decide) (fun _ => ?_) (fun c_ => absurd (by decide +kernel) c_)
    refine z_iload_n dX11_leaves_21 rfl rfl ?_
    refine z_bipush (v := nI 9) dX11_leaves_22 (by decide) ?_
    refine z_icmp_eq (tgt := 33) dX11_leaves_24 (by decide) (fun c_ => absurd c_ (by decide +kernel)) (fun _ => ?_)
    refine z_iload_n dX11_leaves_27 rfl rfl ?_
    refine z_bipush (v := nI 11) dX11_leaves_28 (by decide) ?_
    refine z_icmp_ne (tgt := 37) dX11_leaves_30 (by decide) (fun _ => ?_) (fun c_ => absurd c_ (by decide +kernel))
    refine z_iconst (v := 0) dX11_leaves_37 (by decide) ?_
    exact z_iret dX11_leaves_38 rfl (by decide +kernel) rfl
  · refine z_iload_n dX11_leaves_0 rfl rfl ?_
    refine z_if_eq (tgt := 19) dX11_leaves_1 (by decide) (fun c_ => absurd c_ (by decide +kernel)) (fun _ => ?_)
    refine z_iload_n dX11_leaves_4 rfl rfl ?_
    refine z_iconst (v := 1) dX11_leaves_5 (by decide) ?_
    refine z_icmp_eq (tgt := 19) dX11_leaves_6 (by decide) (fun c_ => absurd c_ (by decide +kernel)) (fun _ => ?_)
    refine z_iload_n dX11_leaves_9 rfl rfl ?_
    refine z_iconst (v := nI 3) dX11_leaves_10 (by decide) ?_
    refine z_bipush (v := nI 8) dX11_leaves_11 (by decide) ?_
    refine z_cS1 dX11_leaves_13 ml_X11_114 (sp_within) rfl rfl (Nat.le_of_ble_eq_true rfl) ?_
    refine z_if_eq (tgt := 21) dX11_leaves_16 (by decide) (fun _ => ?_) (fun c_ => absurd (by decide +kernel) c_)
    refine z_iload_n dX11_leaves_21 rfl rfl ?_
    refine z_bipush (v := nI 9) dX11_leaves_22 (by decide) ?_
    refine z_icmp_eq (tgt := 33) dX11_leaves_24 (by decide) (fun c_ => absurd c_ (by decide +kernel)) (fun _ => ?_)
    refine z_iload_n dX11_leaves_27 rfl rfl ?_
    refine z_bipush (v := nI 11) dX11_leaves_28 (by decide) ?_
    refine z_icmp_ne (tgt := 37) dX11_leaves_30 (by decide) (fun c_ => absurd (by decide +kernel) c_) (fun _ => ?_)
    refine z_iconst (v := nI 2) dX11_leaves_33 (by decide) ?_
    refine z_goto (tgt := 38) dX11_leaves_34 (by decide) ?_
    exact z_iret dX11_leaves_38 rfl (by decide +kernel) rfl
  · refine z_iload_n dX11_leaves_0 rfl rfl ?_
    refine z_if_eq (tgt := 19) dX11_leaves_1 (by decide) (fun c_ => absurd c_ (by decide +kernel)) (fun _ => ?_)
    refine z_iload_n dX11_leaves_4 rfl rfl ?_
    refine z_iconst (v := 1) dX11_leaves_5 (by decide) ?_
    refine z_icmp_eq (tgt := 19) dX11_leaves_6 (by decide) (fun c_ => absurd c_ (by decide +kernel)) (fun _ => ?_)
    refine z_iload_n dX11_leaves_9 rfl rfl ?_
    refine z_iconst (v := nI 3) dX11_leaves_10 (by decide) ?_
    refine z_bipush (v := nI 8) dX11_leaves_11 (by decide) ?_
    refine z_cS1 dX11_leaves_13 ml_X11_114 (sp_within) rfl rfl (Nat.le_of_ble_eq_true rfl) ?_
    refine z_if_eq (tgt := 21) dX11_leaves_16 (by decide) (fun _ => ?_) (fun c_ => absurd (by decide +kernel) c_)
    refine z_iload_n dX11_leaves_21 rfl rfl ?_
    refine z_bipush (v := nI 9) dX11_leaves_22 (by decide) ?_
    refine z_icmp_eq (tgt := 33) dX11_leaves_24 (by decide) (fun c_ => absurd c_ (by decide +kernel)) (fun _ => ?_)
    refine z_iload_n dX11_leaves_27 rfl rfl ?_
    refine z_bipush (v := nI 11) dX11_leaves_28 (by decide) ?_
    refine z_icmp_ne (tgt := 37) dX11_leaves_30 (by decide) (fun _ => ?_) (fun c_ => absurd c_ (by decide +kernel))
    refine z_iconst (v := 0) dX11_leaves_37 (by decide) ?_
    exact z_iret dX11_leaves_38 rfl (by decide +kernel) rfl
  · refine z_iload_n dX11_leaves_0 rfl rfl ?_
    refine z_if_eq (tgt := 19) dX11_leaves_1 (by decide) (fun c_ => absurd c_ (by decide +kernel)) (fun _ => ?_)
    refine z_iload_n dX11_leaves_4 rfl rfl ?_
    refine z_iconst (v := 1) dX11_leaves_5 (by decide) ?_
    refine z_icmp_eq (tgt := 19) dX11_leaves_6 (by decide) (fun c_ => absurd c_ (by decide +kernel)) (fun _ => ?_)
    refine z_iload_n dX11_leaves_9 rfl rfl ?_
    refine z_iconst (v := nI 3) dX11_leaves_10 (by decide) ?_
    refine z_bipush (v := nI 8) dX11_leaves_11 (by decide) ?_
    refine z_cS1 dX11_leaves_13 ml_X11_114 (sp_within) rfl rfl (Nat.le_of_ble_eq_true rfl) ?_
    refine z_if_eq (tgt := 21) dX11_leaves_16 (by decide) (fun _ => ?_) (fun c_ => absurd (by decide +kernel) c_)
    refine z_iload_n dX11_leaves_21 rfl rfl ?_
    refine z_bipush (v := nI 9) dX11_leaves_22 (by decide) ?_
    refine z_icmp_eq (tgt := 33) dX11_leaves_24 (by decide) (fun c_ => absurd c_ (by decide +kernel)) (fun _ => ?_)
    refine z_iload_n dX11_leaves_27 rfl rfl ?_
    refine z_bipush (v := nI 11) dX11_leaves_28 (by decide) ?_
    refine z_icmp_ne (tgt := 37) dX11_leaves_30 (by decide) (fun _ => ?_) (fun c_ => absurd c_ (by decide +kernel))
    refine z_iconst (v := 0) dX11_leaves_37 (by decide) ?_
    exact z_iret dX11_leaves_38 rfl (by decide +kernel) rfl
  · refine z_iload_n dX11_leaves_0 rfl rfl ?_
    refine z_if_eq (tgt := 19) dX11_leaves_1 (by decide) (fun c_ => absurd c_ (by decide +kernel)) (fun _ => ?_)
    refine z_iload_n dX11_leaves_4 rfl rfl ?_
    refine z_iconst (v := 1) dX11_leaves_5 (by decide) ?_
    refine z_icmp_eq (tgt := 19) dX11_leaves_6 (by decide) (fun c_ => absurd c_ (by decide +kernel)) (fun _ => ?_)
    refine z_iload_n dX11_leaves_9 rfl rfl ?_
    refine z_iconst (v := nI 3) dX11_leaves_10 (by decide) ?_
    refine z_bipush (v := nI 8) dX11_leaves_11 (by decide) ?_
    refine z_cS1 dX11_leaves_13 ml_X11_114 (sp_within) rfl rfl (Nat.le_of_ble_eq_true rfl) ?_
    refine z_if_eq (tgt := 21) dX11_leaves_16 (by decide) (fun _ => ?_) (fun c_ => absurd (by decide +kernel) c_)
    refine z_iload_n dX11_leaves_21 rfl rfl ?_
    refine z_bipush (v := nI 9) dX11_leaves_22 (by decide) ?_
    refine z_icmp_eq (tgt := 33) dX11_leaves_24 (by decide) (fun c_ => absurd c_ (by decide +kernel)) (fun _ => ?_)
    refine z_iload_n dX11_leaves_27 rfl rfl ?_
    refine z_bipush (v := nI 11) dX11_leaves_28 (by decide) ?_
    refine z_icmp_ne (tgt := 37) dX11_leaves_30 (by decide) (fun _ => ?_) (fun c_ => absurd c_ (by decide +kernel))
    refine z_iconst (v := 0) dX11_leaves_37 (by decide) ?_
    exact z_iret dX11_leaves_38 rfl (by decide +kernel) rfl
  · refine z_iload_n dX11_leaves_0 rfl rfl ?_
    refine z_if_eq (tgt := 19) dX11_leaves_1 (by decide) (fun c_ => absurd c_ (by decide +kernel)) (fun _ => ?_)
    refine z_iload_n dX11_leaves_4 rfl rfl ?_
    refine z_iconst (v := 1) dX11_leaves_5 (by decide) ?_
    refine z_icmp_eq (tgt := 19) dX11_leaves_6 (by decide) (fun c_ => absurd c_ (by decide +kernel)) (fun _ => ?_)
    refine z_iload_n dX11_leaves_9 rfl rfl ?_
    refine z_iconst (v := nI 3) dX11_leaves_10 (by decide) ?_
    refine z_bipush (v := nI 8) dX11_leaves_11 (by decide) ?_
    refine z_cS1 dX11_leaves_13 ml_X11_114 (sp_within) rfl rfl (Nat.le_of_ble_eq_true rfl) ?_
    refine z_if_eq (tgt := 21) dX11_leaves_16 (by decide) (fun _ => ?_) (fun c_ => absurd (by decide +kernel) c_)
    refine z_iload_n dX11_leaves_21 rfl rfl ?_
    refine z_bipush (v := nI 9) dX11_leaves_22 (by decide) ?_
    refine z_icmp_eq (tgt := 33) dX11_leaves_24 (by decide) (fun c_ => absurd c_ (by decide +kernel)) (fun _ => ?_)
    refine z_iload_n dX11_leaves_27 rfl rfl ?_
    refine z_bipush (v := nI 11) dX11_leaves_28 (by decide) ?_
    refine z_icmp_ne (tgt := 37) dX11_leaves_30 (by decide) (fun _ => ?_) (fun c_ => absurd c_ (by decide +kernel))
    refine z_iconst (v := 0) dX11_leaves_37 (by decide) ?_
    exact z_iret dX11_leaves_38 rfl (by decide +kernel) rfl
set_option maxRecDepth 100000 in
set_option maxHeartbeats 4000000 in
theorem sp_worked {d op : Nat} {a b : Int32} {X : z_X} (h3 : 3 ≤ op) (h8 : op ≤ 8) : z_MV M_X11_worked d 0 0 [.int (nI op), .int a, .int b] X (some (.int (wk op a b))) X := by
  refine z_MV.of pn_X11_worked (Nat.le_of_ble_eq_true rfl) (by simp [Value.category]) rfl ?_
  show z_V _ _ _ _ _ _ _ _ _ [_, _, _] _ _
  rcases (show op = 3 ∨ op = 4 ∨ op = 5 ∨ op = 6 ∨ op = 7 ∨ op = 8 by omega) with rfl | rfl | rfl | rfl | rfl | rfl
  · refine z_iload_n dX11_worked_0 rfl rfl ?_
    refine z_bipush (v := nI 6) dX11_worked_1 (by decide) ?_
    refine z_icmp_ge (tgt := 32) dX11_worked_3 (by decide) (fun c_ => absurd c_ (by decide +kernel)) (fun _ => ?_)
    refine z_iload_n dX11_worked_6 rfl rfl ?_
    refine z_iconst (v := nI 3) dX11_worked_7 (by decide) ?_
    refine z_icmp_ne (tgt := 17) dX11_worked_8 (by decide) (fun c_ => absurd (by decide +kernel) c_) (fun _ => ?_)
    refine z_iload_n dX11_worked_11 rfl rfl ?_
    refine z_iload_n dX11_worked_12 rfl rfl ?_
    refine z_iadd dX11_worked_13 rfl ?_
    refine z_goto (tgt := 31) dX11_worked_14 (by decide) ?_
    exact z_iret dX11_worked_31 rfl (by first | rfl | simp_all [wk]) rfl
  · refine z_iload_n dX11_worked_0 rfl rfl ?_
    refine z_bipush (v := nI 6) dX11_worked_1 (by decide) ?_
    refine z_icmp_ge (tgt := 32) dX11_worked_3 (by decide) (fun c_ => absurd c_ (by decide +kernel)) (fun _ => ?_)
    refine z_iload_n dX11_worked_6 rfl rfl ?_
    refine z_iconst (v := nI 3) dX11_worked_7 (by decide) ?_
    refine z_icmp_ne (tgt := 17) dX11_worked_8 (by decide) (fun _ => ?_) (fun c_ => absurd c_ (by decide +kernel))
    refine z_iload_n dX11_worked_17 rfl rfl ?_
    refine z_iconst (v := nI 4) dX11_worked_18 (by decide) ?_
    refine z_icmp_ne (tgt := 28) dX11_worked_19 (by decide) (fun c_ => absurd (by decide +kernel) c_) (fun _ => ?_)
    refine z_iload_n dX11_worked_22 rfl rfl ?_
    refine z_iload_n dX11_worked_23 rfl rfl ?_
    refine z_isub dX11_worked_24 rfl ?_
    refine z_goto (tgt := 31) dX11_worked_25 (by decide) ?_
    exact z_iret dX11_worked_31 rfl (by first | rfl | simp_all [wk]) rfl
  · refine z_iload_n dX11_worked_0 rfl rfl ?_
    refine z_bipush (v := nI 6) dX11_worked_1 (by decide) ?_
    refine z_icmp_ge (tgt := 32) dX11_worked_3 (by decide) (fun c_ => absurd c_ (by decide +kernel)) (fun _ => ?_)
    refine z_iload_n dX11_worked_6 rfl rfl ?_
    refine z_iconst (v := nI 3) dX11_worked_7 (by decide) ?_
    refine z_icmp_ne (tgt := 17) dX11_worked_8 (by decide) (fun _ => ?_) (fun c_ => absurd c_ (by decide +kernel))
    refine z_iload_n dX11_worked_17 rfl rfl ?_
    refine z_iconst (v := nI 4) dX11_worked_18 (by decide) ?_
    refine z_icmp_ne (tgt := 28) dX11_worked_19 (by decide) (fun _ => ?_) (fun c_ => absurd c_ (by decide +kernel))
    refine z_iload_n dX11_worked_28 rfl rfl ?_
    refine z_iload_n dX11_worked_29 rfl rfl ?_
    refine z_imul dX11_worked_30 rfl ?_
    exact z_iret dX11_worked_31 rfl (by first | rfl | simp_all [wk]) rfl
  · refine z_iload_n dX11_worked_0 rfl rfl ?_
    refine z_bipush (v := nI 6) dX11_worked_1 (by decide) ?_
    refine z_icmp_ge (tgt := 32) dX11_worked_3 (by decide) (fun _ => ?_) (fun c_ => absurd (by decide +kernel) c_)
    refine z_iload_n dX11_worked_32 rfl rfl ?_
    refine z_bipush (v := nI 6) dX11_worked_33 (by decide) ?_
    refine z_icmp_ne (tgt := 44) dX11_worked_35 (by decide) (fun c_ => absurd (by decide +kernel) c_) (fun _ => ?_)
    refine z_iload_n dX11_worked_38 rfl rfl ?_
    refine z_iload_n dX11_worked_39 rfl rfl ?_
    refine z_iand dX11_worked_40 rfl ?_
    refine z_goto (tgt := 73) dX11_worked_41 (by decide) ?_
    exact z_iret dX11_worked_73 rfl (by first | rfl | simp_all [wk]) rfl
  · refine z_iload_n dX11_worked_0 rfl rfl ?_
    refine z_bipush (v := nI 6) dX11_worked_1 (by decide) ?_
    refine z_icmp_ge (tgt := 32) dX11_worked_3 (by decide) (fun _ => ?_) (fun c_ => absurd (by decide +kernel) c_)
    refine z_iload_n dX11_worked_32 rfl rfl ?_
    refine z_bipush (v := nI 6) dX11_worked_33 (by decide) ?_
    refine z_icmp_ne (tgt := 44) dX11_worked_35 (by decide) (fun _ => ?_) (fun c_ => absurd c_ (by decide +kernel))
    refine z_iload_n dX11_worked_44 rfl rfl ?_
    refine z_bipush (v := nI 7) dX11_worked_45 (by decide) ?_
    refine z_icmp_ne (tgt := 63) dX11_worked_47 (by decide) (fun c_ => absurd (by decide +kernel) c_) (fun _ => ?_)
    refine z_iload_n dX11_worked_50 rfl rfl ?_
    refine z_iload_n dX11_worked_51 rfl rfl ?_
    refine z_icmp_ge (tgt := 59) dX11_worked_52 (by decide) (fun c52 => ?_) (fun c52 => ?_)
    · refine z_iconst (v := 0) dX11_worked_59 (by decide) ?_
      refine z_goto (tgt := 73) dX11_worked_60 (by decide) ?_
      exact z_iret dX11_worked_73 rfl (by first | rfl | simp_all [wk]) rfl
    · refine z_iconst (v := 1) dX11_worked_55 (by decide) ?_
      refine z_goto (tgt := 73) dX11_worked_56 (by decide) ?_
      exact z_iret dX11_worked_73 rfl (by first | rfl | simp_all [wk]) rfl
  · refine z_iload_n dX11_worked_0 rfl rfl ?_
    refine z_bipush (v := nI 6) dX11_worked_1 (by decide) ?_
    refine z_icmp_ge (tgt := 32) dX11_worked_3 (by decide) (fun _ => ?_) (fun c_ => absurd (by decide +kernel) c_)
    refine z_iload_n dX11_worked_32 rfl rfl ?_
    refine z_bipush (v := nI 6) dX11_worked_33 (by decide) ?_
    refine z_icmp_ne (tgt := 44) dX11_worked_35 (by decide) (fun _ => ?_) (fun c_ => absurd c_ (by decide +kernel))
    refine z_iload_n dX11_worked_44 rfl rfl ?_
    refine z_bipush (v := nI 7) dX11_worked_45 (by decide) ?_
    refine z_icmp_ne (tgt := 63) dX11_worked_47 (by decide) (fun _ => ?_) (fun c_ => absurd c_ (by decide +kernel))
    refine z_iload_n dX11_worked_63 rfl rfl ?_
    refine z_iload_n dX11_worked_64 rfl rfl ?_
    refine z_icmp_ne (tgt := 72) dX11_worked_65 (by decide) (fun c65 => ?_) (fun c65 => ?_)
    · refine z_iconst (v := 0) dX11_worked_72 (by decide) ?_
      exact z_iret dX11_worked_73 rfl (by first | rfl | simp_all [wk]) rfl
    · refine z_iconst (v := 1) dX11_worked_68 (by decide) ?_
      refine z_goto (tgt := 73) dX11_worked_69 (by decide) ?_
      exact z_iret dX11_worked_73 rfl (by first | rfl | simp_all [wk]) rfl
def rpu (σ : Nat → Nat → Int32) (e : Nat) (x : Int32) : Nat → Nat → Int32 := z_up (z_up σ 97 e x) 92 9 (nI (e + 1))
def rpo (σ : Nat → Nat → Int32) (e : Nat) : Nat → Nat → Int32 := z_up σ 92 9 (nI e)
def rgu (σ : Nat → Nat → Int32) (p : Nat) : Nat → Nat → Int32 := z_up (z_up σ 100 p (nI 2)) 92 15 (-1)
def htS (σ : Nat → Nat → Int32) (p : Nat) : Nat → Nat → Int32 :=
  if σ 92 6 = 0 ∨ ¬ σ 100 p = 0 ∨ ¬ σ 92 15 < 0 then σ else if ¬ nI 3 ≤ σ 99 p + 1 then z_up σ 99 p (σ 99 p + 1)
  else if σ 92 19 = nI 4 ∨ ¬ σ 92 9 ≤ 0 then z_up (z_up σ 99 p (σ 99 p + 1)) 100 p (nI 2)
  else z_up (z_up (z_up σ 99 p (σ 99 p + 1)) 92 15 (nI p)) 92 16 0
def tofF (σ : Nat → Nat → Int32) (x : Int32) : Nat → Int32
  | 0 => -1
  | t + 1 => if σ 103 t = x then nI t else tofF σ x t
def shf (σ : Nat → Nat → Int32) (k : Nat) : Nat → Nat → Int32 := z_row σ 98 (fun j => if k < j ∧ j < 30 then σ 98 (j - 1) else σ 98 j)
theorem shf_29 (σ : Nat → Nat → Int32) : shf σ 29 = σ := by
  funext b j
  by_cases hb : b = 98
  · subst hb
    have : ¬ (29 < j ∧ j < 30) := by omega
    simp [shf, z_row, this]
  · simp [shf, z_row, hb]
theorem shf_s (σ : Nat → Nat → Int32) (k : Nat) (hk : k < 29) : z_up (shf σ (k + 1)) 98 (k + 1) (σ 98 k) = shf σ k := by
  funext b j
  by_cases hb : b = 98
  · subst hb
    by_cases hj : j = k + 1
    · subst hj
      have : k + 1 < 30 := by omega
      simp [shf, z_row, z_up, this]
    · have : (k + 1 < j ∧ j < 30) ↔ (k < j ∧ j < 30) := by omega
      simp only [shf, z_row, z_up, hj, and_false, ↓reduceIte]
      by_cases h2 : k < j ∧ j < 30
      · rw [if_pos h2, if_pos (this.mpr h2)]
      · rw [if_neg h2, if_neg (fun z => h2 (this.mp z))]
  · simp [shf, z_row, z_up, hb]
def rgv (σ : Nat → Nat → Int32) (x : Int32) : Nat → Nat → Int32 := z_up (z_up (shf σ 0) 98 0 x) 92 11 (σ 92 11 + 1)
def cm (σ : Nat → Nat → Int32) (i : Nat) : Nat → Nat → Int32 := fun b j => if (b = 99 ∨ b = 100) ∧ j < i then 0 else σ b j
theorem cm_0 (σ : Nat → Nat → Int32) : cm σ 0 = σ := by funext b j; simp [cm]
theorem cm_s (σ : Nat → Nat → Int32) (i : Nat) : z_up (z_up (cm σ i) 99 i 0) 100 i 0 = cm σ (i + 1) := by
  funext b j
  simp only [z_up, cm]
  by_cases hj : j = i
  · subst hj
    by_cases h1 : b = 99
    · subst h1; simp
    · by_cases h2 : b = 100
      · subst h2; simp
      · simp [h1, h2]
  · have : j < i + 1 ↔ j < i := by omega
    simp [hj, this]
def fr0 (σ : Nat → Nat → Int32) : Nat → Nat → Int32 := z_up (z_up (rowF σ 96 (fun _ => 0) 6) 92 9 0) 92 11 0
def frS (σ : Nat → Nat → Int32) : Nat → Nat → Int32 := z_up (z_up (z_up (z_up (z_up (z_up (z_up (cm (fr0 σ) 40) 92 15 (-1)) 92 19 0) 92 20 (-1)) 92 31 0) 92 32 0) 92 33 0) 92 34 0
def rld (σ : Nat → Nat → Int32) (n a : Nat) (q : Int32) : Int32 × (Nat → Nat → Int32) := if n ≤ a ∨ (¬ σ 95 a < 0 ∧ ¬ σ 95 a = q) then (0, σ) else (1, z_up σ 95 a q)
set_option maxRecDepth 100000 in
set_option maxHeartbeats 4000000 in
theorem sp_rpush {d : Nat} {σ : Nat → Nat → Int32} {τ : Nat → Nat → Int64} {e : Nat} {x : Int32} (he : σ 92 9 = nI e) (hl : e < 8) : z_MV M_X11_push d 0 0 [.ref 92, .int x] (124, z_r0, σ, τ) (none) (124, z_r0, rpu σ e x, τ) := by
  refine z_MV.of pn_X11_push (Nat.le_of_ble_eq_true rfl) (by simp [Value.category]) rfl ?_
  show z_V _ _ _ _ _ _ _ _ _ [_, _] _ _
  refine z_aload_n dX11_push_0 rfl rfl ?_
  refine z_getR dX11_push_1 fl_X11_26 rfl rfl rfl ?_
  refine z_aload_n dX11_push_4 rfl rfl ?_
  refine z_getI dX11_push_5 fl_X11_139 rfl rfl (show _ = nI e by simp [z_up, he]) ?_
  refine z_iload_n dX11_push_8 rfl rfl ?_
  refine z_iast dX11_push_9 rfl rfl (by omega) ?_
  refine z_aload_n dX11_push_10 rfl rfl ?_
  refine z_dup dX11_push_11 rfl ?_
  refine z_getI dX11_push_12 fl_X11_139 rfl rfl (show _ = nI e by simp [z_up, he]) ?_
  refine z_iconst (v := 1) dX11_push_15 (by decide) ?_
  refine z_iadd dX11_push_16 (nI_1 _) ?_
  refine z_putI dX11_push_17 fl_X11_139 rfl rfl (Or.inl rfl) rfl ?_
  exact z_vret dX11_push_20 rfl rfl rfl
set_option maxRecDepth 100000 in
set_option maxHeartbeats 4000000 in
theorem sp_rpop {d : Nat} {σ : Nat → Nat → Int32} {τ : Nat → Nat → Int64} {e : Nat} (he : σ 92 9 = nI (e + 1)) (hl : e < 8) : z_MV M_X11_pop d 0 0 [.ref 92] (124, z_r0, σ, τ) (some (.int (σ 97 e))) (124, z_r0, rpo σ e, τ) := by
  refine z_MV.of pn_X11_pop (Nat.le_of_ble_eq_true rfl) (by simp [Value.category]) rfl ?_
  show z_V _ _ _ _ _ _ _ _ _ [_] _ _
  refine z_aload_n dX11_pop_0 rfl rfl ?_
  refine z_dup dX11_pop_1 rfl ?_
  refine z_getI dX11_pop_2 fl_X11_139 rfl rfl he ?_
  refine z_iconst (v := 1) dX11_pop_5 (by decide) ?_
  refine z_isub dX11_pop_6 (nI_pred e) ?_
  refine z_putI dX11_pop_7 fl_X11_139 rfl rfl (Or.inl rfl) rfl ?_
  refine z_aload_n dX11_pop_10 rfl rfl ?_
  refine z_getR dX11_pop_11 fl_X11_26 rfl rfl rfl ?_
  refine z_aload_n dX11_pop_14 rfl rfl ?_
  refine z_getI dX11_pop_15 fl_X11_139 rfl rfl (show _ = nI e by simp [z_up]) ?_
  refine z_iald dX11_pop_18 rfl rfl (by omega) (show _ = σ 97 e by simp [z_up]) ?_
  exact z_iret dX11_pop_19 rfl rfl rfl
set_option maxRecDepth 100000 in
set_option maxHeartbeats 4000000 in
theorem sp_rgiveUp {d : Nat} {σ : Nat → Nat → Int32} {τ : Nat → Nat → Int64} {p : Nat} (hp : p < 40) : z_MV M_X11_giveUp d 0 0 [.ref 92, .int (nI p)] (124, z_r0, σ, τ) (none) (124, z_r0, rgu σ p, τ) := by
  refine z_MV.of pn_X11_giveUp (Nat.le_of_ble_eq_true rfl) (by simp [Value.category]) rfl ?_
  show z_V _ _ _ _ _ _ _ _ _ [_, _] _ _
  refine z_aload_n dX11_giveUp_0 rfl rfl ?_
  refine z_getR dX11_giveUp_1 fl_X11_35 rfl rfl rfl ?_
  refine z_iload_n dX11_giveUp_4 rfl rfl ?_
  refine z_iconst (v := nI 2) dX11_giveUp_5 (by decide) ?_
  refine z_iast dX11_giveUp_6 rfl rfl (by omega) ?_
  refine z_aload_n dX11_giveUp_7 rfl rfl ?_
  refine z_iconst (v := (-1)) dX11_giveUp_8 (by decide) ?_
  refine z_putI dX11_giveUp_9 fl_X11_38 rfl rfl (Or.inl rfl) rfl ?_
  exact z_vret dX11_giveUp_12 rfl rfl rfl
set_option maxRecDepth 100000 in
set_option maxHeartbeats 4000000 in
theorem sp_hot {d : Nat} {σ : Nat → Nat → Int32} {τ : Nat → Nat → Int64} {p : Nat} (hp : p < 40) : z_MV M_X11_hot d 0 0 [.ref 92, .int (nI p)] (124, z_r0, σ, τ) (none) (124, z_r0, htS σ p, τ) := by
  refine z_MV.of pn_X11_hot (Nat.le_of_ble_eq_true rfl) (by simp [Value.category]) rfl ?_
  show z_V _ _ _ _ _ _ _ _ _ [_, _] _ _
  refine z_aload_n dX11_hot_0 rfl rfl ?_
  refine z_getI dX11_hot_1 fl_X11_167 rfl rfl rfl ?_
  refine z_if_eq (tgt := 23) dX11_hot_4 (by decide) (fun c4 => ?_) (fun c4 => ?_)
  · exact z_vret dX11_hot_23 rfl rfl (by simp [htS, c4])
  · refine z_aload_n dX11_hot_7 rfl rfl ?_
    refine z_getR dX11_hot_8 fl_X11_35 rfl rfl rfl ?_
    refine z_iload_n dX11_hot_11 rfl rfl ?_
    refine z_iald dX11_hot_12 rfl rfl (by omega) rfl ?_
    refine z_if_ne (tgt := 23) dX11_hot_13 (by decide) (fun c13 => ?_) (fun c13 => ?_)
    · exact z_vret dX11_hot_23 rfl rfl (by simp [htS, c4, c13])
    · refine z_aload_n dX11_hot_16 rfl rfl ?_
      refine z_getI dX11_hot_17 fl_X11_38 rfl rfl rfl ?_
      refine z_if_lt (tgt := 24) dX11_hot_20 (by decide) (fun c20 => ?_) (fun c20 => ?_)
      · refine z_aload_n dX11_hot_24 rfl rfl ?_
        refine z_getR dX11_hot_25 fl_X11_32 rfl rfl rfl ?_
        refine z_iload_n dX11_hot_28 rfl rfl ?_
        refine z_dup2 dX11_hot_29 rfl rfl ?_
        refine z_iald dX11_hot_30 rfl rfl (by omega) rfl ?_
        refine z_iconst (v := 1) dX11_hot_31 (by decide) ?_
        refine z_iadd dX11_hot_32 rfl ?_
        refine z_iast dX11_hot_33 rfl rfl (by omega) ?_
        refine z_aload_n dX11_hot_34 rfl rfl ?_
        refine z_getR dX11_hot_35 fl_X11_32 rfl rfl rfl ?_
        refine z_iload_n dX11_hot_38 rfl rfl ?_
        refine z_iald dX11_hot_39 rfl rfl (by omega) (show _ = σ 99 p + 1 by simp [z_up]) ?_
        refine z_iconst (v := nI 3) dX11_hot_40 (by decide) ?_
        refine z_icmp_ge (tgt := 45) dX11_hot_41 (by decide) (fun c41 => ?_) (fun c41 => ?_)
        · refine z_aload_n dX11_hot_45 rfl rfl ?_
          refine z_getI dX11_hot_46 fl_X11_145 rfl rfl (show _ = σ 92 19 by simp [z_up]) ?_
          refine z_iconst (v := nI 4) dX11_hot_49 (by decide) ?_
          refine z_icmp_eq (tgt := 60) dX11_hot_50 (by decide) (fun c50 => ?_) (fun c50 => ?_)
          · refine z_aload_n dX11_hot_60 rfl rfl ?_
            refine z_getR dX11_hot_61 fl_X11_35 rfl rfl rfl ?_
            refine z_iload_n dX11_hot_64 rfl rfl ?_
            refine z_iconst (v := nI 2) dX11_hot_65 (by decide) ?_
            refine z_iast dX11_hot_66 rfl rfl (by omega) ?_
            refine z_goto (tgt := 80) dX11_hot_67 (by decide) ?_
            exact z_vret dX11_hot_80 rfl rfl (by simp [htS, c4, c13, c20, c41, c50])
          · refine z_aload_n dX11_hot_53 rfl rfl ?_
            refine z_getI dX11_hot_54 fl_X11_139 rfl rfl (show _ = σ 92 9 by simp [z_up]) ?_
            refine z_if_le (tgt := 70) dX11_hot_57 (by decide) (fun c57 => ?_) (fun c57 => ?_)
            · refine z_aload_n dX11_hot_70 rfl rfl ?_
              refine z_iload_n dX11_hot_71 rfl rfl ?_
              refine z_putI dX11_hot_72 fl_X11_38 rfl rfl (Or.inl rfl) rfl ?_
              refine z_aload_n dX11_hot_75 rfl rfl ?_
              refine z_iconst (v := 0) dX11_hot_76 (by decide) ?_
              refine z_putI dX11_hot_77 fl_X11_185 rfl rfl (Or.inl rfl) rfl ?_
              exact z_vret dX11_hot_80 rfl rfl (by simp [htS, c4, c13, c20, c41, c50, c57])
            · refine z_aload_n dX11_hot_60 rfl rfl ?_
              refine z_getR dX11_hot_61 fl_X11_35 rfl rfl rfl ?_
              refine z_iload_n dX11_hot_64 rfl rfl ?_
              refine z_iconst (v := nI 2) dX11_hot_65 (by decide) ?_
              refine z_iast dX11_hot_66 rfl rfl (by omega) ?_
              refine z_goto (tgt := 80) dX11_hot_67 (by decide) ?_
              exact z_vret dX11_hot_80 rfl rfl (by simp [htS, c4, c13, c20, c41, c50, c57])
        · exact z_vret dX11_hot_44 rfl rfl (by simp [htS, c4, c13, c20, c41])
      · exact z_vret dX11_hot_23 rfl rfl (by simp [htS, c4, c13, c20])
set_option maxRecDepth 100000 in
set_option maxHeartbeats 4000000 in
theorem traceOf_loop {d : Nat} {σ : Nat → Nat → Int32} {τ : Nat → Nat → Int64} {n : Nat} {x : Int32} (hn : σ 92 19 = nI n) (h4 : n ≤ 4) : ∀ (m v : Nat), v ≤ n → n - v < m → z_V M_X11_traceOf d 0 0 0 0 (some (.int (tofF σ x n))) (124, z_r0, σ, τ) 4 [some (.ref 92), some (.int x), some (.int (tofF σ x v)), some (.int (nI v))] [] (124, z_r0, σ, τ) := by
  intro m
  induction m with
  | zero => intro v _ h; omega
  | succ m ih =>
    intro v hv1 hv2
    refine z_iload_n dX11_traceOf_4 rfl rfl ?_
    refine z_aload_n dX11_traceOf_5 rfl rfl ?_
    refine z_getI dX11_traceOf_6 fl_X11_145 rfl rfl hn ?_
    refine z_icmp_ge (tgt := 34) dX11_traceOf_9 (by decide) (fun c9 => ?_) (fun c9 => ?_)
    · have e0 : n = v := by
        rcases Nat.lt_or_ge v n with q | q
        · exact absurd c9 (nI_ge q (by omega))
        · omega
      subst e0
      refine z_iload_n dX11_traceOf_34 rfl rfl ?_
      exact z_iret dX11_traceOf_35 rfl rfl rfl
    · have hlt : v < n := by
        rcases Nat.lt_or_ge v n with q | q
        · exact q
        · exact absurd (nI_le q (by omega)) c9
      refine z_aload_n dX11_traceOf_12 rfl rfl ?_
      refine z_getR dX11_traceOf_13 fl_X11_51 rfl rfl rfl ?_
      refine z_iload_n dX11_traceOf_16 rfl rfl ?_
      refine z_iald dX11_traceOf_17 rfl rfl (by omega) rfl ?_
      refine z_iload_n dX11_traceOf_18 rfl rfl ?_
      refine z_icmp_ne (tgt := 26) dX11_traceOf_19 (by decide) (fun c19 => ?_) (fun c19 => ?_)
      · have e1 : tofF σ x (v + 1) = tofF σ x v := if_neg c19
        refine z_iload_n dX11_traceOf_26 rfl rfl ?_
        refine z_istore_n dX11_traceOf_27 rfl (by decide) ?_
        show z_V _ _ _ _ _ _ _ _ _ [_, _, _, _] _ _
        refine z_iinc dX11_traceOf_28 rfl (nI_i _) (by decide) ?_
        show z_V _ _ _ _ _ _ _ _ _ [_, _, _, _] _ _
        refine z_goto (tgt := 4) dX11_traceOf_31 (by decide) ?_
        rw [← e1]
        exact ih (v + 1) (by omega) (by omega)
      · have e1 : tofF σ x (v + 1) = nI v := if_pos c19
        refine z_iload_n dX11_traceOf_22 rfl rfl ?_
        refine z_goto (tgt := 27) dX11_traceOf_23 (by decide) ?_
        refine z_istore_n dX11_traceOf_27 rfl (by decide) ?_
        show z_V _ _ _ _ _ _ _ _ _ [_, _, _, _] _ _
        refine z_iinc dX11_traceOf_28 rfl (nI_i _) (by decide) ?_
        show z_V _ _ _ _ _ _ _ _ _ [_, _, _, _] _ _
        refine z_goto (tgt := 4) dX11_traceOf_31 (by decide) ?_
        rw [← e1]
        exact ih (v + 1) (by omega) (by omega)
set_option maxRecDepth 100000 in
set_option maxHeartbeats 4000000 in
theorem sp_traceOf {d : Nat} {σ : Nat → Nat → Int32} {τ : Nat → Nat → Int64} {n : Nat} {x : Int32} (hn : σ 92 19 = nI n) (h4 : n ≤ 4) : z_MV M_X11_traceOf d 0 0 [.ref 92, .int x] (124, z_r0, σ, τ) (some (.int (tofF σ x n))) (124, z_r0, σ, τ) := by
  refine z_MV.of pn_X11_traceOf (Nat.le_of_ble_eq_true rfl) (by simp [Value.category]) rfl ?_
  show z_V _ _ _ _ _ _ _ _ _ [_, _, _, _] _ _
  refine z_iconst (v := (-1)) dX11_traceOf_0 (by decide) ?_
  refine z_istore_n dX11_traceOf_1 rfl (by decide) ?_
  show z_V _ _ _ _ _ _ _ _ _ [_, _, _, _] _ _
  refine z_iconst (v := 0) dX11_traceOf_2 (by decide) ?_
  refine z_istore_n dX11_traceOf_3 rfl (by decide) ?_
  show z_V _ _ _ _ _ _ _ _ _ [_, _, _, _] _ _
  exact traceOf_loop hn h4 (n + 1) 0 (Nat.zero_le _) (by omega)
set_option maxRecDepth 100000 in
set_option maxHeartbeats 4000000 in
theorem give_loop {d : Nat} {σ : Nat → Nat → Int32} {τ : Nat → Nat → Int64} {x : Int32} : ∀ (k : Nat), k ≤ 29 → z_V M_X11_give d 0 0 0 0 none (124, z_r0, rgv σ x, τ) 3 [some (.ref 92), some (.int x), some (.int (nI k))] [] (124, z_r0, shf σ k, τ) := by
  intro k
  induction k using Nat.strongRecOn with
  | ind k ih0 =>
    intro hk
    have ih : ∀ j, j < k → j ≤ 29 → z_V M_X11_give d 0 0 0 0 none (124, z_r0, rgv σ x, τ) 3 [some (.ref 92), some (.int x), some (.int (nI j))] [] (124, z_r0, shf σ j, τ) := ih0
    refine z_iload_n dX11_give_3 rfl rfl ?_
    refine z_if_le (tgt := 27) dX11_give_4 (by decide) (fun c4 => ?_) (fun c4 => ?_)
    · have e0 : 0 = k := by
        rcases Nat.eq_zero_or_pos k with z | z
        · exact z.symm
        · exact absurd c4 (nI_nle z (by omega))
      subst e0
      refine z_aload_n dX11_give_27 rfl rfl ?_
      refine z_getR dX11_give_28 fl_X11_29 rfl rfl rfl ?_
      refine z_iconst (v := 0) dX11_give_31 (by decide) ?_
      refine z_iload_n dX11_give_32 rfl rfl ?_
      refine z_iast (j := 0) dX11_give_33 rfl nI_0.symm (by omega) ?_
      refine z_aload_n dX11_give_34 rfl rfl ?_
      refine z_dup dX11_give_35 rfl ?_
      refine z_getI dX11_give_36 fl_X11_142 rfl rfl (show _ = σ 92 11 by simp [z_up, shf, z_row]) ?_
      refine z_iconst (v := 1) dX11_give_39 (by decide) ?_
      refine z_iadd dX11_give_40 rfl ?_
      refine z_putI dX11_give_41 fl_X11_142 rfl rfl (Or.inl rfl) rfl ?_
      exact z_vret dX11_give_44 rfl rfl rfl
    · obtain ⟨j, rfl⟩ : ∃ j, k = j + 1 := by
        rcases Nat.eq_zero_or_pos k with z | z
        · subst z; exact absurd (by decide) c4
        · exact ⟨k - 1, by omega⟩
      refine z_aload_n dX11_give_7 rfl rfl ?_
      refine z_getR dX11_give_8 fl_X11_29 rfl rfl rfl ?_
      refine z_iload_n dX11_give_11 rfl rfl ?_
      refine z_aload_n dX11_give_12 rfl rfl ?_
      refine z_getR dX11_give_13 fl_X11_29 rfl rfl rfl ?_
      refine z_iload_n dX11_give_16 rfl rfl ?_
      refine z_iconst (v := 1) dX11_give_17 (by decide) ?_
      refine z_isub dX11_give_18 (nI_pred j) ?_
      refine z_iald dX11_give_19 rfl rfl (by omega) (show _ = σ 98 j by simp only [shf, z_row, ↓reduceIte]; rw [if_neg (by omega)]) ?_
      refine z_iast dX11_give_20 rfl rfl (by omega) ?_
      refine z_iinc dX11_give_21 rfl ((nI_dec _).trans (nI_pred j)) (by decide) ?_
      show z_V _ _ _ _ _ _ _ _ _ [_, _, _] _ _
      refine z_goto (tgt := 3) dX11_give_24 (by decide) ?_
      exact z_Vx (shf_s σ j (by omega)).symm (ih j (by omega) (by omega))
set_option maxRecDepth 100000 in
set_option maxHeartbeats 4000000 in
theorem sp_rgive {d : Nat} {σ : Nat → Nat → Int32} {τ : Nat → Nat → Int64} {x : Int32} : z_MV M_X11_give d 0 0 [.ref 92, .int x] (124, z_r0, σ, τ) (none) (124, z_r0, rgv σ x, τ) := by
  refine z_MV.of pn_X11_give (Nat.le_of_ble_eq_true rfl) (by simp [Value.category]) rfl ?_
  show z_V _ _ _ _ _ _ _ _ _ [_, _, _] _ _
  refine z_bipush (v := nI 29) dX11_give_0 (by decide) ?_
  refine z_istore_n dX11_give_2 rfl (by decide) ?_
  show z_V _ _ _ _ _ _ _ _ _ [_, _, _] _ _
  have h2 := give_loop (d := d) (σ := σ) (τ := τ) (x := x) 29 (by omega)
  rw [shf_29] at h2
  exact h2
set_option maxRecDepth 100000 in
set_option maxHeartbeats 4000000 in
theorem fresh_loop2 {d : Nat} {σ : Nat → Nat → Int32} {τ : Nat → Nat → Int64} : ∀ (m v : Nat), v ≤ 40 → 40 - v < m → z_V M_X11_fresh d 0 0 0 0 none (124, z_r0, frS σ, τ) 33 [some (.ref 92), some (.int (nI v))] [] (124, z_r0, cm (fr0 σ) v, τ) := by
  intro m
  induction m with
  | zero => intro v _ h; omega
  | succ m ih =>
    intro v hv1 hv2
    refine z_iload_n dX11_fresh_33 rfl rfl ?_
    refine z_bipush (v := nI 40) dX11_fresh_34 (by decide) ?_
    refine z_icmp_ge (tgt := 59) dX11_fresh_36 (by decide) (fun c36 => ?_) (fun c36 => ?_)
    · have e0 : 40 = v := by
        rcases Nat.lt_or_ge v 40 with q | q
        · exact absurd c36 (nI_ge q (by omega))
        · omega
      subst e0
      refine z_aload_n dX11_fresh_59 rfl rfl ?_
      refine z_iconst (v := (-1)) dX11_fresh_60 (by decide) ?_
      refine z_putI dX11_fresh_61 fl_X11_38 rfl rfl (Or.inl rfl) rfl ?_
      refine z_aload_n dX11_fresh_64 rfl rfl ?_
      refine z_iconst (v := 0) dX11_fresh_65 (by decide) ?_
      refine z_putI dX11_fresh_66 fl_X11_145 rfl rfl (Or.inl rfl) rfl ?_
      refine z_aload_n dX11_fresh_69 rfl rfl ?_
      refine z_iconst (v := (-1)) dX11_fresh_70 (by decide) ?_
      refine z_putI dX11_fresh_71 fl_X11_48 rfl rfl (Or.inl rfl) rfl ?_
      refine z_aload_n dX11_fresh_74 rfl rfl ?_
      refine z_iconst (v := 0) dX11_fresh_75 (by decide) ?_
      refine z_putI dX11_fresh_76 fl_X11_148 rfl rfl (Or.inl rfl) rfl ?_
      refine z_aload_n dX11_fresh_79 rfl rfl ?_
      refine z_iconst (v := 0) dX11_fresh_80 (by decide) ?_
      refine z_putI dX11_fresh_81 fl_X11_151 rfl rfl (Or.inl rfl) rfl ?_
      refine z_aload_n dX11_fresh_84 rfl rfl ?_
      refine z_iconst (v := 0) dX11_fresh_85 (by decide) ?_
      refine z_putI dX11_fresh_86 fl_X11_154 rfl rfl (Or.inl rfl) rfl ?_
      refine z_aload_n dX11_fresh_89 rfl rfl ?_
      refine z_iconst (v := 0) dX11_fresh_90 (by decide) ?_
      refine z_putI dX11_fresh_91 fl_X11_157 rfl rfl (Or.inl rfl) rfl ?_
      exact z_vret dX11_fresh_94 rfl rfl rfl
    · have hlt : v < 40 := by
        rcases Nat.lt_or_ge v 40 with q | q
        · exact q
        · exact absurd (nI_le q (by omega)) c36
      refine z_aload_n dX11_fresh_39 rfl rfl ?_
      refine z_getR dX11_fresh_40 fl_X11_32 rfl rfl rfl ?_
      refine z_iload_n dX11_fresh_43 rfl rfl ?_
      refine z_iconst (v := 0) dX11_fresh_44 (by decide) ?_
      refine z_iast dX11_fresh_45 rfl rfl (by omega) ?_
      refine z_aload_n dX11_fresh_46 rfl rfl ?_
      refine z_getR dX11_fresh_47 fl_X11_35 rfl rfl rfl ?_
      refine z_iload_n dX11_fresh_50 rfl rfl ?_
      refine z_iconst (v := 0) dX11_fresh_51 (by decide) ?_
      refine z_iast dX11_fresh_52 rfl rfl (by omega) ?_
      refine z_iinc dX11_fresh_53 rfl (nI_i _) (by decide) ?_
      show z_V _ _ _ _ _ _ _ _ _ [_, _] _ _
      refine z_goto (tgt := 33) dX11_fresh_56 (by decide) ?_
      rw [cm_s]
      exact ih (v + 1) (by omega) (by omega)
set_option maxRecDepth 100000 in
set_option maxHeartbeats 4000000 in
theorem fresh_loop1 {d : Nat} {σ : Nat → Nat → Int32} {τ : Nat → Nat → Int64} : ∀ (m v : Nat), v ≤ 6 → 6 - v < m → z_V M_X11_fresh d 0 0 0 0 none (124, z_r0, frS σ, τ) 2 [some (.ref 92), some (.int (nI v))] [] (124, z_r0, rowF σ 96 (fun _ => 0) v, τ) := by
  intro m
  induction m with
  | zero => intro v _ h; omega
  | succ m ih =>
    intro v hv1 hv2
    refine z_iload_n dX11_fresh_2 rfl rfl ?_
    refine z_bipush (v := nI 6) dX11_fresh_3 (by decide) ?_
    refine z_icmp_ge (tgt := 21) dX11_fresh_5 (by decide) (fun c5 => ?_) (fun c5 => ?_)
    · have e0 : 6 = v := by
        rcases Nat.lt_or_ge v 6 with q | q
        · exact absurd c5 (nI_ge q (by omega))
        · omega
      subst e0
      refine z_aload_n dX11_fresh_21 rfl rfl ?_
      refine z_iconst (v := 0) dX11_fresh_22 (by decide) ?_
      refine z_putI dX11_fresh_23 fl_X11_139 rfl rfl (Or.inl rfl) rfl ?_
      refine z_aload_n dX11_fresh_26 rfl rfl ?_
      refine z_iconst (v := 0) dX11_fresh_27 (by decide) ?_
      refine z_putI dX11_fresh_28 fl_X11_142 rfl rfl (Or.inl rfl) rfl ?_
      refine z_iconst (v := 0) dX11_fresh_31 (by decide) ?_
      refine z_istore_n dX11_fresh_32 rfl (by decide) ?_
      show z_V _ _ _ _ _ _ _ _ _ [_, _] _ _
      have h2 := fresh_loop2 (d := d) (σ := σ) (τ := τ) 41 0 (by omega) (by omega)
      rw [cm_0] at h2
      exact h2
    · have hlt : v < 6 := by
        rcases Nat.lt_or_ge v 6 with q | q
        · exact q
        · exact absurd (nI_le q (by omega)) c5
      refine z_aload_n dX11_fresh_8 rfl rfl ?_
      refine z_getR dX11_fresh_9 fl_X11_23 rfl rfl rfl ?_
      refine z_iload_n dX11_fresh_12 rfl rfl ?_
      refine z_iconst (v := 0) dX11_fresh_13 (by decide) ?_
      refine z_iast dX11_fresh_14 rfl rfl (by omega) ?_
      refine z_iinc dX11_fresh_15 rfl (nI_i _) (by decide) ?_
      show z_V _ _ _ _ _ _ _ _ _ [_, _] _ _
      refine z_goto (tgt := 2) dX11_fresh_18 (by decide) ?_
      rw [show z_up (rowF σ 96 (fun _ => 0) v) 96 v 0 = rowF σ 96 (fun _ => 0) (v + 1) from rowF_s _ _ (fun _ => 0) _]
      exact ih (v + 1) (by omega) (by omega)
set_option maxRecDepth 100000 in
set_option maxHeartbeats 4000000 in
theorem sp_fresh {d : Nat} {σ : Nat → Nat → Int32} {τ : Nat → Nat → Int64} : z_MV M_X11_fresh d 0 0 [.ref 92] (124, z_r0, σ, τ) (none) (124, z_r0, frS σ, τ) := by
  refine z_MV.of pn_X11_fresh (Nat.le_of_ble_eq_true rfl) (by simp [Value.category]) rfl ?_
  show z_V _ _ _ _ _ _ _ _ _ [_, _] _ _
  refine z_iconst (v := 0) dX11_fresh_0 (by decide) ?_
  refine z_istore_n dX11_fresh_1 rfl (by decide) ?_
  show z_V _ _ _ _ _ _ _ _ _ [_, _] _ _
  have h2 := fresh_loop1 (d := d) (σ := σ) (τ := τ) 7 0 (by omega) (by omega)
  rw [rowF_0] at h2
  exact h2
set_option maxRecDepth 100000 in
set_option maxHeartbeats 4000000 in
theorem sp_leads {d : Nat} {σ : Nat → Nat → Int32} {τ : Nat → Nat → Int64} {n a : Nat} {q : Int32} (hn : σ 92 1 = nI n) (h40 : n ≤ 40) (ha : a ≤ 40) : z_MV M_X11_leads d 0 0 [.ref 92, .int (nI a), .int q] (124, z_r0, σ, τ) (some (.int (rld σ n a q).1)) (124, z_r0, (rld σ n a q).2, τ) := by
  refine z_MV.of pn_X11_leads (Nat.le_of_ble_eq_true rfl) (by simp [Value.category]) rfl ?_
  show z_V _ _ _ _ _ _ _ _ _ [_, _, _] _ _
  refine z_iload_n dX11_leads_0 rfl rfl ?_
  refine z_aload_n dX11_leads_1 rfl rfl ?_
  refine z_getI dX11_leads_2 fl_X11_122 rfl rfl hn ?_
  refine z_icmp_ge (tgt := 27) dX11_leads_5 (by decide) (fun c5 => ?_) (fun c5 => ?_)
  · have han : n ≤ a := by
      rcases Nat.lt_or_ge a n with z | z
      · exact absurd c5 (nI_ge z (by omega))
      · exact z
    refine z_iconst (v := 0) dX11_leads_27 (by decide) ?_
    exact z_zret dX11_leads_28 rfl (by first | exact Or.inl rfl | exact Or.inr rfl) (by simp [rld, han]) (by simp [rld, han])
  · have han : a < n := by
      rcases Nat.lt_or_ge a n with z | z
      · exact z
      · exact absurd (nI_le z (by omega)) c5
    refine z_aload_n dX11_leads_8 rfl rfl ?_
    refine z_getR dX11_leads_9 fl_X11_16 rfl rfl rfl ?_
    refine z_iload_n dX11_leads_12 rfl rfl ?_
    refine z_iald dX11_leads_13 rfl rfl (by omega) rfl ?_
    refine z_if_lt (tgt := 29) dX11_leads_14 (by decide) (fun c14 => ?_) (fun c14 => ?_)
    · refine z_aload_n dX11_leads_29 rfl rfl ?_
      refine z_getR dX11_leads_30 fl_X11_16 rfl rfl rfl ?_
      refine z_iload_n dX11_leads_33 rfl rfl ?_
      refine z_iload_n dX11_leads_34 rfl rfl ?_
      refine z_iast dX11_leads_35 rfl rfl (by omega) ?_
      refine z_iconst (v := 1) dX11_leads_36 (by decide) ?_
      exact z_zret dX11_leads_37 rfl (by first | exact Or.inl rfl | exact Or.inr rfl) (by simp [rld, Nat.not_le.mpr han, c14]) (by simp [rld, Nat.not_le.mpr han, c14])
    · refine z_aload_n dX11_leads_17 rfl rfl ?_
      refine z_getR dX11_leads_18 fl_X11_16 rfl rfl rfl ?_
      refine z_iload_n dX11_leads_21 rfl rfl ?_
      refine z_iald dX11_leads_22 rfl rfl (by omega) rfl ?_
      refine z_iload_n dX11_leads_23 rfl rfl ?_
      refine z_icmp_eq (tgt := 29) dX11_leads_24 (by decide) (fun c24 => ?_) (fun c24 => ?_)
      · refine z_aload_n dX11_leads_29 rfl rfl ?_
        refine z_getR dX11_leads_30 fl_X11_16 rfl rfl rfl ?_
        refine z_iload_n dX11_leads_33 rfl rfl ?_
        refine z_iload_n dX11_leads_34 rfl rfl ?_
        refine z_iast dX11_leads_35 rfl rfl (by omega) ?_
        refine z_iconst (v := 1) dX11_leads_36 (by decide) ?_
        exact z_zret dX11_leads_37 rfl (by first | exact Or.inl rfl | exact Or.inr rfl) (by simp [rld, Nat.not_le.mpr han, c24]) (by simp [rld, Nat.not_le.mpr han, c24])
      · refine z_iconst (v := 0) dX11_leads_27 (by decide) ?_
        exact z_zret dX11_leads_28 rfl (by first | exact Or.inl rfl | exact Or.inr rfl) (by simp [rld, Nat.not_le.mpr han, c14, c24]) (by simp [rld, Nat.not_le.mpr han, c14, c24])
