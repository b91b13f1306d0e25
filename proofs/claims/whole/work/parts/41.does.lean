/-! PART 41: TraceTierModel: does, valueOf, calculated, picture -/
set_option maxRecDepth 100000 in
set_option maxHeartbeats 4000000 in
theorem sp_ds0 {d : Nat} {σ : Nat → Nat → Int32} {τ : Nat → Nat → Int64} {k e : Nat} (hk : k < 40) (hop : σ 93 k = nI 0) (he : σ 92 9 = nI e) (he8 : e < 8) : z_MV M_X11_does (d + 1) 0 0 [.ref 92, .int (nI k)] (124, z_r0, σ, τ) (some (.int (nI (k + 1)))) (124, z_r0, rpu σ e (σ 94 k), τ) := by
  refine z_MV.of pn_X11_does (Nat.le_of_ble_eq_true rfl) (by simp [Value.category]) rfl ?_
  show z_V _ _ _ _ _ _ _ _ _ [_, _, _, _, _] _ _
  refine z_aload_n dX11_does_0 rfl rfl ?_
  refine z_getR dX11_does_1 fl_X11_7 rfl rfl rfl ?_
  refine z_iload_n dX11_does_4 rfl rfl ?_
  refine z_iald dX11_does_5 rfl rfl (by omega) hop ?_
  refine z_istore_n dX11_does_6 rfl (by decide) ?_
  show z_V _ _ _ _ _ _ _ _ _ [_, _, _, _, _] _ _
  refine z_iload_n dX11_does_7 rfl rfl ?_
  refine z_if_ne (tgt := 21) dX11_does_8 (by decide) (fun c_ => absurd (by decide +kernel) c_) (fun _ => ?_)
  refine z_aload_n dX11_does_11 rfl rfl ?_
  refine z_aload_n dX11_does_12 rfl rfl ?_
  refine z_getR dX11_does_13 fl_X11_13 rfl rfl rfl ?_
  refine z_iload_n dX11_does_16 rfl rfl ?_
  refine z_iald dX11_does_17 rfl rfl (by omega) rfl ?_
  refine z_cV0 dX11_does_18 ml_X11_170 (sp_rpush he he8) rfl ⟨by decide, rfl⟩ rfl rfl (Nat.le_of_ble_eq_true rfl) ?_
  refine z_iload_n dX11_does_21 rfl rfl ?_
  refine z_iconst (v := 1) dX11_does_22 (by decide) ?_
  refine z_icmp_ne (tgt := 41) dX11_does_23 (by decide) (fun _ => ?_) (fun c_ => absurd c_ (by decide +kernel))
  refine z_iload_n dX11_does_41 rfl rfl ?_
  refine z_iconst (v := nI 2) dX11_does_42 (by decide) ?_
  refine z_icmp_ne (tgt := 61) dX11_does_43 (by decide) (fun _ => ?_) (fun c_ => absurd c_ (by decide +kernel))
  refine z_iload_n dX11_does_61 rfl rfl ?_
  refine z_iconst (v := nI 3) dX11_does_62 (by decide) ?_
  refine z_bipush (v := nI 8) dX11_does_63 (by decide) ?_
  refine z_cS1 dX11_does_65 ml_X11_114 (sp_within) rfl rfl (Nat.le_of_ble_eq_true rfl) ?_
  refine z_if_eq (tgt := 93) dX11_does_68 (by decide) (fun _ => ?_) (fun c_ => absurd (by decide +kernel) c_)
  refine z_iload_n dX11_does_93 rfl rfl ?_
  refine z_bipush (v := nI 9) dX11_does_94 (by decide) ?_
  refine z_icmp_ne (tgt := 114) dX11_does_96 (by decide) (fun _ => ?_) (fun c_ => absurd c_ (by decide +kernel))
  refine z_iload_n dX11_does_114 rfl rfl ?_
  refine z_bipush (v := nI 10) dX11_does_115 (by decide) ?_
  refine z_icmp_ne (tgt := 125) dX11_does_117 (by decide) (fun _ => ?_) (fun c_ => absurd c_ (by decide +kernel))
  refine z_iload_n dX11_does_125 rfl rfl ?_
  refine z_bipush (v := nI 11) dX11_does_126 (by decide) ?_
  refine z_icmp_ne (tgt := 153) dX11_does_128 (by decide) (fun _ => ?_) (fun c_ => absurd c_ (by decide +kernel))
  refine z_iload_n dX11_does_153 rfl rfl ?_
  refine z_bipush (v := nI 12) dX11_does_154 (by decide) ?_
  refine z_icmp_ne (tgt := 167) dX11_does_156 (by decide) (fun _ => ?_) (fun c_ => absurd c_ (by decide +kernel))
  refine z_iload_n dX11_does_167 rfl rfl ?_
  refine z_bipush (v := nI 13) dX11_does_168 (by decide) ?_
  refine z_icmp_ne (tgt := 180) dX11_does_170 (by decide) (fun _ => ?_) (fun c_ => absurd c_ (by decide +kernel))
  refine z_iload_n dX11_does_180 rfl rfl ?_
  refine z_bipush (v := nI 14) dX11_does_181 (by decide) ?_
  refine z_icmp_ne (tgt := 206) dX11_does_183 (by decide) (fun _ => ?_) (fun c_ => absurd c_ (by decide +kernel))
  refine z_iload_n dX11_does_206 rfl rfl ?_
  refine z_bipush (v := nI 15) dX11_does_207 (by decide) ?_
  refine z_icmp_ne (tgt := 216) dX11_does_209 (by decide) (fun _ => ?_) (fun c_ => absurd c_ (by decide +kernel))
  refine z_iload_n dX11_does_216 rfl rfl ?_
  refine z_iconst (v := 1) dX11_does_217 (by decide) ?_
  refine z_iadd dX11_does_218 (nI_1 _) ?_
  exact z_iret dX11_does_219 rfl rfl rfl
set_option maxRecDepth 100000 in
set_option maxHeartbeats 4000000 in
theorem sp_ds1 {d : Nat} {σ : Nat → Nat → Int32} {τ : Nat → Nat → Int64} {k e : Nat} (hk : k < 40) (hop : σ 93 k = nI 1) {l : Nat} (he : σ 92 9 = nI e) (he8 : e < 8) (hx : σ 94 k = nI l) (hl : l < 6) : z_MV M_X11_does (d + 1) 0 0 [.ref 92, .int (nI k)] (124, z_r0, σ, τ) (some (.int (nI (k + 1)))) (124, z_r0, rpu σ e (σ 96 l), τ) := by
  refine z_MV.of pn_X11_does (Nat.le_of_ble_eq_true rfl) (by simp [Value.category]) rfl ?_
  show z_V _ _ _ _ _ _ _ _ _ [_, _, _, _, _] _ _
  refine z_aload_n dX11_does_0 rfl rfl ?_
  refine z_getR dX11_does_1 fl_X11_7 rfl rfl rfl ?_
  refine z_iload_n dX11_does_4 rfl rfl ?_
  refine z_iald dX11_does_5 rfl rfl (by omega) hop ?_
  refine z_istore_n dX11_does_6 rfl (by decide) ?_
  show z_V _ _ _ _ _ _ _ _ _ [_, _, _, _, _] _ _
  refine z_iload_n dX11_does_7 rfl rfl ?_
  refine z_if_ne (tgt := 21) dX11_does_8 (by decide) (fun _ => ?_) (fun c_ => absurd c_ (by decide +kernel))
  refine z_iload_n dX11_does_21 rfl rfl ?_
  refine z_iconst (v := 1) dX11_does_22 (by decide) ?_
  refine z_icmp_ne (tgt := 41) dX11_does_23 (by decide) (fun c_ => absurd (by decide +kernel) c_) (fun _ => ?_)
  refine z_aload_n dX11_does_26 rfl rfl ?_
  refine z_aload_n dX11_does_27 rfl rfl ?_
  refine z_getR dX11_does_28 fl_X11_23 rfl rfl rfl ?_
  refine z_aload_n dX11_does_31 rfl rfl ?_
  refine z_getR dX11_does_32 fl_X11_13 rfl rfl rfl ?_
  refine z_iload_n dX11_does_35 rfl rfl ?_
  refine z_iald dX11_does_36 rfl rfl (by omega) hx ?_
  refine z_iald dX11_does_37 rfl rfl (by omega) rfl ?_
  refine z_cV0 dX11_does_38 ml_X11_170 (sp_rpush he he8) rfl ⟨by decide, rfl⟩ rfl rfl (Nat.le_of_ble_eq_true rfl) ?_
  refine z_iload_n dX11_does_41 rfl rfl ?_
  refine z_iconst (v := nI 2) dX11_does_42 (by decide) ?_
  refine z_icmp_ne (tgt := 61) dX11_does_43 (by decide) (fun _ => ?_) (fun c_ => absurd c_ (by decide +kernel))
  refine z_iload_n dX11_does_61 rfl rfl ?_
  refine z_iconst (v := nI 3) dX11_does_62 (by decide) ?_
  refine z_bipush (v := nI 8) dX11_does_63 (by decide) ?_
  refine z_cS1 dX11_does_65 ml_X11_114 (sp_within) rfl rfl (Nat.le_of_ble_eq_true rfl) ?_
  refine z_if_eq (tgt := 93) dX11_does_68 (by decide) (fun _ => ?_) (fun c_ => absurd (by decide +kernel) c_)
  refine z_iload_n dX11_does_93 rfl rfl ?_
  refine z_bipush (v := nI 9) dX11_does_94 (by decide) ?_
  refine z_icmp_ne (tgt := 114) dX11_does_96 (by decide) (fun _ => ?_) (fun c_ => absurd c_ (by decide +kernel))
  refine z_iload_n dX11_does_114 rfl rfl ?_
  refine z_bipush (v := nI 10) dX11_does_115 (by decide) ?_
  refine z_icmp_ne (tgt := 125) dX11_does_117 (by decide) (fun _ => ?_) (fun c_ => absurd c_ (by decide +kernel))
  refine z_iload_n dX11_does_125 rfl rfl ?_
  refine z_bipush (v := nI 11) dX11_does_126 (by decide) ?_
  refine z_icmp_ne (tgt := 153) dX11_does_128 (by decide) (fun _ => ?_) (fun c_ => absurd c_ (by decide +kernel))
  refine z_iload_n dX11_does_153 rfl rfl ?_
  refine z_bipush (v := nI 12) dX11_does_154 (by decide) ?_
  refine z_icmp_ne (tgt := 167) dX11_does_156 (by decide) (fun _ => ?_) (fun c_ => absurd c_ (by decide +kernel))
  refine z_iload_n dX11_does_167 rfl rfl ?_
  refine z_bipush (v := nI 13) dX11_does_168 (by decide) ?_
  refine z_icmp_ne (tgt := 180) dX11_does_170 (by decide) (fun _ => ?_) (fun c_ => absurd c_ (by decide +kernel))
  refine z_iload_n dX11_does_180 rfl rfl ?_
  refine z_bipush (v := nI 14) dX11_does_181 (by decide) ?_
  refine z_icmp_ne (tgt := 206) dX11_does_183 (by decide) (fun _ => ?_) (fun c_ => absurd c_ (by decide +kernel))
  refine z_iload_n dX11_does_206 rfl rfl ?_
  refine z_bipush (v := nI 15) dX11_does_207 (by decide) ?_
  refine z_icmp_ne (tgt := 216) dX11_does_209 (by decide) (fun _ => ?_) (fun c_ => absurd c_ (by decide +kernel))
  refine z_iload_n dX11_does_216 rfl rfl ?_
  refine z_iconst (v := 1) dX11_does_217 (by decide) ?_
  refine z_iadd dX11_does_218 (nI_1 _) ?_
  exact z_iret dX11_does_219 rfl rfl rfl
set_option maxRecDepth 100000 in
set_option maxHeartbeats 4000000 in
theorem sp_ds2 {d : Nat} {σ : Nat → Nat → Int32} {τ : Nat → Nat → Int64} {k e : Nat} (hk : k < 40) (hop : σ 93 k = nI 2) {l : Nat} (he : σ 92 9 = nI (e + 1)) (he8 : e < 8) (hx : σ 94 k = nI l) (hl : l < 6) : z_MV M_X11_does (d + 1) 0 0 [.ref 92, .int (nI k)] (124, z_r0, σ, τ) (some (.int (nI (k + 1)))) (124, z_r0, z_up (rpo σ e) 96 l (σ 97 e), τ) := by
  refine z_MV.of pn_X11_does (Nat.le_of_ble_eq_true rfl) (by simp [Value.category]) rfl ?_
  show z_V _ _ _ _ _ _ _ _ _ [_, _, _, _, _] _ _
  refine z_aload_n dX11_does_0 rfl rfl ?_
  refine z_getR dX11_does_1 fl_X11_7 rfl rfl rfl ?_
  refine z_iload_n dX11_does_4 rfl rfl ?_
  refine z_iald dX11_does_5 rfl rfl (by omega) hop ?_
  refine z_istore_n dX11_does_6 rfl (by decide) ?_
  show z_V _ _ _ _ _ _ _ _ _ [_, _, _, _, _] _ _
  refine z_iload_n dX11_does_7 rfl rfl ?_
  refine z_if_ne (tgt := 21) dX11_does_8 (by decide) (fun _ => ?_) (fun c_ => absurd c_ (by decide +kernel))
  refine z_iload_n dX11_does_21 rfl rfl ?_
  refine z_iconst (v := 1) dX11_does_22 (by decide) ?_
  refine z_icmp_ne (tgt := 41) dX11_does_23 (by decide) (fun _ => ?_) (fun c_ => absurd c_ (by decide +kernel))
  refine z_iload_n dX11_does_41 rfl rfl ?_
  refine z_iconst (v := nI 2) dX11_does_42 (by decide) ?_
  refine z_icmp_ne (tgt := 61) dX11_does_43 (by decide) (fun c_ => absurd (by decide +kernel) c_) (fun _ => ?_)
  refine z_aload_n dX11_does_46 rfl rfl ?_
  refine z_getR dX11_does_47 fl_X11_23 rfl rfl rfl ?_
  refine z_aload_n dX11_does_50 rfl rfl ?_
  refine z_getR dX11_does_51 fl_X11_13 rfl rfl rfl ?_
  refine z_iload_n dX11_does_54 rfl rfl ?_
  refine z_iald dX11_does_55 rfl rfl (by omega) hx ?_
  refine z_aload_n dX11_does_56 rfl rfl ?_
  refine z_cV1 dX11_does_57 ml_X11_174 (sp_rpop he he8) rfl ⟨by decide, rfl⟩ rfl rfl (Nat.le_of_ble_eq_true rfl) ?_
  refine z_iast dX11_does_60 rfl rfl (by omega) ?_
  refine z_iload_n dX11_does_61 rfl rfl ?_
  refine z_iconst (v := nI 3) dX11_does_62 (by decide) ?_
  refine z_bipush (v := nI 8) dX11_does_63 (by decide) ?_
  refine z_cS1 dX11_does_65 ml_X11_114 (sp_within) rfl rfl (Nat.le_of_ble_eq_true rfl) ?_
  refine z_if_eq (tgt := 93) dX11_does_68 (by decide) (fun _ => ?_) (fun c_ => absurd (by decide +kernel) c_)
  refine z_iload_n dX11_does_93 rfl rfl ?_
  refine z_bipush (v := nI 9) dX11_does_94 (by decide) ?_
  refine z_icmp_ne (tgt := 114) dX11_does_96 (by decide) (fun _ => ?_) (fun c_ => absurd c_ (by decide +kernel))
  refine z_iload_n dX11_does_114 rfl rfl ?_
  refine z_bipush (v := nI 10) dX11_does_115 (by decide) ?_
  refine z_icmp_ne (tgt := 125) dX11_does_117 (by decide) (fun _ => ?_) (fun c_ => absurd c_ (by decide +kernel))
  refine z_iload_n dX11_does_125 rfl rfl ?_
  refine z_bipush (v := nI 11) dX11_does_126 (by decide) ?_
  refine z_icmp_ne (tgt := 153) dX11_does_128 (by decide) (fun _ => ?_) (fun c_ => absurd c_ (by decide +kernel))
  refine z_iload_n dX11_does_153 rfl rfl ?_
  refine z_bipush (v := nI 12) dX11_does_154 (by decide) ?_
  refine z_icmp_ne (tgt := 167) dX11_does_156 (by decide) (fun _ => ?_) (fun c_ => absurd c_ (by decide +kernel))
  refine z_iload_n dX11_does_167 rfl rfl ?_
  refine z_bipush (v := nI 13) dX11_does_168 (by decide) ?_
  refine z_icmp_ne (tgt := 180) dX11_does_170 (by decide) (fun _ => ?_) (fun c_ => absurd c_ (by decide +kernel))
  refine z_iload_n dX11_does_180 rfl rfl ?_
  refine z_bipush (v := nI 14) dX11_does_181 (by decide) ?_
  refine z_icmp_ne (tgt := 206) dX11_does_183 (by decide) (fun _ => ?_) (fun c_ => absurd c_ (by decide +kernel))
  refine z_iload_n dX11_does_206 rfl rfl ?_
  refine z_bipush (v := nI 15) dX11_does_207 (by decide) ?_
  refine z_icmp_ne (tgt := 216) dX11_does_209 (by decide) (fun _ => ?_) (fun c_ => absurd c_ (by decide +kernel))
  refine z_iload_n dX11_does_216 rfl rfl ?_
  refine z_iconst (v := 1) dX11_does_217 (by decide) ?_
  refine z_iadd dX11_does_218 (nI_1 _) ?_
  exact z_iret dX11_does_219 rfl rfl rfl
set_option maxRecDepth 100000 in
set_option maxHeartbeats 4000000 in
theorem sp_ds3 {d : Nat} {σ : Nat → Nat → Int32} {τ : Nat → Nat → Int64} {k e : Nat} (hk : k < 40) (hop : σ 93 k = nI 3) (he : σ 92 9 = nI (e + 2)) (he8 : e + 1 < 8) : z_MV M_X11_does (d + 1) 0 0 [.ref 92, .int (nI k)] (124, z_r0, σ, τ) (some (.int (nI (k + 1)))) (124, z_r0, rpu (rpo (rpo σ (e + 1)) e) e (wk 3 (σ 97 e) (σ 97 (e + 1))), τ) := by
  refine z_MV.of pn_X11_does (Nat.le_of_ble_eq_true rfl) (by simp [Value.category]) rfl ?_
  show z_V _ _ _ _ _ _ _ _ _ [_, _, _, _, _] _ _
  refine z_aload_n dX11_does_0 rfl rfl ?_
  refine z_getR dX11_does_1 fl_X11_7 rfl rfl rfl ?_
  refine z_iload_n dX11_does_4 rfl rfl ?_
  refine z_iald dX11_does_5 rfl rfl (by omega) hop ?_
  refine z_istore_n dX11_does_6 rfl (by decide) ?_
  show z_V _ _ _ _ _ _ _ _ _ [_, _, _, _, _] _ _
  refine z_iload_n dX11_does_7 rfl rfl ?_
  refine z_if_ne (tgt := 21) dX11_does_8 (by decide) (fun _ => ?_) (fun c_ => absurd c_ (by decide +kernel))
  refine z_iload_n dX11_does_21 rfl rfl ?_
  refine z_iconst (v := 1) dX11_does_22 (by decide) ?_
  refine z_icmp_ne (tgt := 41) dX11_does_23 (by decide) (fun _ => ?_) (fun c_ => absurd c_ (by decide +kernel))
  refine z_iload_n dX11_does_41 rfl rfl ?_
  refine z_iconst (v := nI 2) dX11_does_42 (by decide) ?_
  refine z_icmp_ne (tgt := 61) dX11_does_43 (by decide) (fun _ => ?_) (fun c_ => absurd c_ (by decide +kernel))
  refine z_iload_n dX11_does_61 rfl rfl ?_
  refine z_iconst (v := nI 3) dX11_does_62 (by decide) ?_
  refine z_bipush (v := nI 8) dX11_does_63 (by decide) ?_
  refine z_cS1 dX11_does_65 ml_X11_114 (sp_within) rfl rfl (Nat.le_of_ble_eq_true rfl) ?_
  refine z_if_eq (tgt := 93) dX11_does_68 (by decide) (fun c_ => absurd c_ (by decide +kernel)) (fun _ => ?_)
  refine z_aload_n dX11_does_71 rfl rfl ?_
  refine z_cV1 dX11_does_72 ml_X11_174 (sp_rpop he he8) rfl ⟨by decide, rfl⟩ rfl rfl (Nat.le_of_ble_eq_true rfl) ?_
  refine z_istore_n dX11_does_75 rfl (by decide) ?_
  show z_V _ _ _ _ _ _ _ _ _ [_, _, _, _, _] _ _
  refine z_aload_n dX11_does_76 rfl rfl ?_
  refine z_cV1 dX11_does_77 ml_X11_174 (sp_rpop (e := e) (show _ = nI (e + 1) by simp [rpo, z_up]) (by omega)) rfl ⟨by decide, rfl⟩ rfl rfl (Nat.le_of_ble_eq_true rfl) ?_
  rw [show rpo σ (e + 1) 97 e = σ 97 e from congrFun (z_up_ne _ _ _ (by decide)) e]
  refine z_istore dX11_does_80 (by decide) ?_
  show z_V _ _ _ _ _ _ _ _ _ [_, _, _, _, _] _ _
  refine z_aload_n dX11_does_82 rfl rfl ?_
  refine z_iload_n dX11_does_83 rfl rfl ?_
  refine z_iload dX11_does_84 rfl ?_
  refine z_iload_n dX11_does_86 rfl rfl ?_
  refine z_cS1 dX11_does_87 ml_X11_178 (sp_worked (by decide) (by decide)) rfl rfl (Nat.le_of_ble_eq_true rfl) ?_
  refine z_cV0 dX11_does_90 ml_X11_170 (sp_rpush (e := e) (show _ = nI e by simp [rpo, z_up]) (by omega)) rfl ⟨by decide, rfl⟩ rfl rfl (Nat.le_of_ble_eq_true rfl) ?_
  refine z_iload_n dX11_does_93 rfl rfl ?_
  refine z_bipush (v := nI 9) dX11_does_94 (by decide) ?_
  refine z_icmp_ne (tgt := 114) dX11_does_96 (by decide) (fun _ => ?_) (fun c_ => absurd c_ (by decide +kernel))
  refine z_iload_n dX11_does_114 rfl rfl ?_
  refine z_bipush (v := nI 10) dX11_does_115 (by decide) ?_
  refine z_icmp_ne (tgt := 125) dX11_does_117 (by decide) (fun _ => ?_) (fun c_ => absurd c_ (by decide +kernel))
  refine z_iload_n dX11_does_125 rfl rfl ?_
  refine z_bipush (v := nI 11) dX11_does_126 (by decide) ?_
  refine z_icmp_ne (tgt := 153) dX11_does_128 (by decide) (fun _ => ?_) (fun c_ => absurd c_ (by decide +kernel))
  refine z_iload_n dX11_does_153 rfl rfl ?_
  refine z_bipush (v := nI 12) dX11_does_154 (by decide) ?_
  refine z_icmp_ne (tgt := 167) dX11_does_156 (by decide) (fun _ => ?_) (fun c_ => absurd c_ (by decide +kernel))
  refine z_iload_n dX11_does_167 rfl rfl ?_
  refine z_bipush (v := nI 13) dX11_does_168 (by decide) ?_
  refine z_icmp_ne (tgt := 180) dX11_does_170 (by decide) (fun _ => ?_) (fun c_ => absurd c_ (by decide +kernel))
  refine z_iload_n dX11_does_180 rfl rfl ?_
  refine z_bipush (v := nI 14) dX11_does_181 (by decide) ?_
  refine z_icmp_ne (tgt := 206) dX11_does_183 (by decide) (fun _ => ?_) (fun c_ => absurd c_ (by decide +kernel))
  refine z_iload_n dX11_does_206 rfl rfl ?_
  refine z_bipush (v := nI 15) dX11_does_207 (by decide) ?_
  refine z_icmp_ne (tgt := 216) dX11_does_209 (by decide) (fun _ => ?_) (fun c_ => absurd c_ (by decide +kernel))
  refine z_iload_n dX11_does_216 rfl rfl ?_
  refine z_iconst (v := 1) dX11_does_217 (by decide) ?_
  refine z_iadd dX11_does_218 (nI_1 _) ?_
  exact z_iret dX11_does_219 rfl rfl rfl
set_option maxRecDepth 100000 in
set_option maxHeartbeats 4000000 in
theorem sp_ds4 {d : Nat} {σ : Nat → Nat → Int32} {τ : Nat → Nat → Int64} {k e : Nat} (hk : k < 40) (hop : σ 93 k = nI 4) (he : σ 92 9 = nI (e + 2)) (he8 : e + 1 < 8) : z_MV M_X11_does (d + 1) 0 0 [.ref 92, .int (nI k)] (124, z_r0, σ, τ) (some (.int (nI (k + 1)))) (124, z_r0, rpu (rpo (rpo σ (e + 1)) e) e (wk 4 (σ 97 e) (σ 97 (e + 1))), τ) := by
  refine z_MV.of pn_X11_does (Nat.le_of_ble_eq_true rfl) (by simp [Value.category]) rfl ?_
  show z_V _ _ _ _ _ _ _ _ _ [_, _, _, _, _] _ _
  refine z_aload_n dX11_does_0 rfl rfl ?_
  refine z_getR dX11_does_1 fl_X11_7 rfl rfl rfl ?_
  refine z_iload_n dX11_does_4 rfl rfl ?_
  refine z_iald dX11_does_5 rfl rfl (by omega) hop ?_
  refine z_istore_n dX11_does_6 rfl (by decide) ?_
  show z_V _ _ _ _ _ _ _ _ _ [_, _, _, _, _] _ _
  refine z_iload_n dX11_does_7 rfl rfl ?_
  refine z_if_ne (tgt := 21) dX11_does_8 (by decide) (fun _ => ?_) (fun c_ => absurd c_ (by decide +kernel))
  refine z_iload_n dX11_does_21 rfl rfl ?_
  refine z_iconst (v := 1) dX11_does_22 (by decide) ?_
  refine z_icmp_ne (tgt := 41) dX11_does_23 (by decide) (fun _ => ?_) (fun c_ => absurd c_ (by decide +kernel))
  refine z_iload_n dX11_does_41 rfl rfl ?_
  refine z_iconst (v := nI 2) dX11_does_42 (by decide) ?_
  refine z_icmp_ne (tgt := 61) dX11_does_43 (by decide) (fun _ => ?_) (fun c_ => absurd c_ (by decide +kernel))
  refine z_iload_n dX11_does_61 rfl rfl ?_
  refine z_iconst (v := nI 3) dX11_does_62 (by decide) ?_
  refine z_bipush (v := nI 8) dX11_does_63 (by decide) ?_
  refine z_cS1 dX11_does_65 ml_X11_114 (sp_within) rfl rfl (Nat.le_of_ble_eq_true rfl) ?_
  refine z_if_eq (tgt := 93) dX11_does_68 (by decide) (fun c_ => absurd c_ (by decide +kernel)) (fun _ => ?_)
  refine z_aload_n dX11_does_71 rfl rfl ?_
  refine z_cV1 dX11_does_72 ml_X11_174 (sp_rpop he he8) rfl ⟨by decide, rfl⟩ rfl rfl (Nat.le_of_ble_eq_true rfl) ?_
  refine z_istore_n dX11_does_75 rfl (by decide) ?_
  show z_V _ _ _ _ _ _ _ _ _ [_, _, _, _, _] _ _
  refine z_aload_n dX11_does_76 rfl rfl ?_
  refine z_cV1 dX11_does_77 ml_X11_174 (sp_rpop (e := e) (show _ = nI (e + 1) by simp [rpo, z_up]) (by omega)) rfl ⟨by decide, rfl⟩ rfl rfl (Nat.le_of_ble_eq_true rfl) ?_
  rw [show rpo σ (e + 1) 97 e = σ 97 e from congrFun (z_up_ne _ _ _ (by decide)) e]
  refine z_istore dX11_does_80 (by decide) ?_
  show z_V _ _ _ _ _ _ _ _ _ [_, _, _, _, _] _ _
  refine z_aload_n dX11_does_82 rfl rfl ?_
  refine z_iload_n dX11_does_83 rfl rfl ?_
  refine z_iload dX11_does_84 rfl ?_
  refine z_iload_n dX11_does_86 rfl rfl ?_
  refine z_cS1 dX11_does_87 ml_X11_178 (sp_worked (by decide) (by decide)) rfl rfl (Nat.le_of_ble_eq_true rfl) ?_
  refine z_cV0 dX11_does_90 ml_X11_170 (sp_rpush (e := e) (show _ = nI e by simp [rpo, z_up]) (by omega)) rfl ⟨by decide, rfl⟩ rfl rfl (Nat.le_of_ble_eq_true rfl) ?_
  refine z_iload_n dX11_does_93 rfl rfl ?_
  refine z_bipush (v := nI 9) dX11_does_94 (by decide) ?_
  refine z_icmp_ne (tgt := 114) dX11_does_96 (by decide) (fun _ => ?_) (fun c_ => absurd c_ (by decide +kernel))
  refine z_iload_n dX11_does_114 rfl rfl ?_
  refine z_bipush (v := nI 10) dX11_does_115 (by decide) ?_
  refine z_icmp_ne (tgt := 125) dX11_does_117 (by decide) (fun _ => ?_) (fun c_ => absurd c_ (by decide +kernel))
  refine z_iload_n dX11_does_125 rfl rfl ?_
  refine z_bipush (v := nI 11) dX11_does_126 (by decide) ?_
  refine z_icmp_ne (tgt := 153) dX11_does_128 (by decide) (fun _ => ?_) (fun c_ => absurd c_ (by decide +kernel))
  refine z_iload_n dX11_does_153 rfl rfl ?_
  refine z_bipush (v := nI 12) dX11_does_154 (by decide) ?_
  refine z_icmp_ne (tgt := 167) dX11_does_156 (by decide) (fun _ => ?_) (fun c_ => absurd c_ (by decide +kernel))
  refine z_iload_n dX11_does_167 rfl rfl ?_
  refine z_bipush (v := nI 13) dX11_does_168 (by decide) ?_
  refine z_icmp_ne (tgt := 180) dX11_does_170 (by decide) (fun _ => ?_) (fun c_ => absurd c_ (by decide +kernel))
  refine z_iload_n dX11_does_180 rfl rfl ?_
  refine z_bipush (v := nI 14) dX11_does_181 (by decide) ?_
  refine z_icmp_ne (tgt := 206) dX11_does_183 (by decide) (fun _ => ?_) (fun c_ => absurd c_ (by decide +kernel))
  refine z_iload_n dX11_does_206 rfl rfl ?_
  refine z_bipush (v := nI 15) dX11_does_207 (by decide) ?_
  refine z_icmp_ne (tgt := 216) dX11_does_209 (by decide) (fun _ => ?_) (fun c_ => absurd c_ (by decide +kernel))
  refine z_iload_n dX11_does_216 rfl rfl ?_
  refine z_iconst (v := 1) dX11_does_217 (by decide) ?_
  refine z_iadd dX11_does_218 (nI_1 _) ?_
  exact z_iret dX11_does_219 rfl rfl rfl
set_option maxRecDepth 100000 in
set_option maxHeartbeats 4000000 in
theorem sp_ds5 {d : Nat} {σ : Nat → Nat → Int32} {τ : Nat → Nat → Int64} {k e : Nat} (hk : k < 40) (hop : σ 93 k = nI 5) (he : σ 92 9 = nI (e + 2)) (he8 : e + 1 < 8) : z_MV M_X11_does (d + 1) 0 0 [.ref 92, .int (nI k)] (124, z_r0, σ, τ) (some (.int (nI (k + 1)))) (124, z_r0, rpu (rpo (rpo σ (e + 1)) e) e (wk 5 (σ 97 e) (σ 97 (e + 1))), τ) := by
  refine z_MV.of pn_X11_does (Nat.le_of_ble_eq_true rfl) (by simp [Value.category]) rfl ?_
  show z_V _ _ _ _ _ _ _ _ _ [_, _, _, _, _] _ _
  refine z_aload_n dX11_does_0 rfl rfl ?_
  refine z_getR dX11_does_1 fl_X11_7 rfl rfl rfl ?_
  refine z_iload_n dX11_does_4 rfl rfl ?_
  refine z_iald dX11_does_5 rfl rfl (by omega) hop ?_
  refine z_istore_n dX11_does_6 rfl (by decide) ?_
  show z_V _ _ _ _ _ _ _ _ _ [_, _, _, _, _] _ _
  refine z_iload_n dX11_does_7 rfl rfl ?_
  refine z_if_ne (tgt := 21) dX11_does_8 (by decide) (fun _ => ?_) (fun c_ => absurd c_ (by decide +kernel))
  refine z_iload_n dX11_does_21 rfl rfl ?_
  refine z_iconst (v := 1) dX11_does_22 (by decide) ?_
  refine z_icmp_ne (tgt := 41) dX11_does_23 (by decide) (fun _ => ?_) (fun c_ => absurd c_ (by decide +kernel))
  refine z_iload_n dX11_does_41 rfl rfl ?_
  refine z_iconst (v := nI 2) dX11_does_42 (by decide) ?_
  refine z_icmp_ne (tgt := 61) dX11_does_43 (by decide) (fun _ => ?_) (fun c_ => absurd c_ (by decide +kernel))
  refine z_iload_n dX11_does_61 rfl rfl ?_
  refine z_iconst (v := nI 3) dX11_does_62 (by decide) ?_
  refine z_bipush (v := nI 8) dX11_does_63 (by decide) ?_
  refine z_cS1 dX11_does_65 ml_X11_114 (sp_within) rfl rfl (Nat.le_of_ble_eq_true rfl) ?_
  refine z_if_eq (tgt := 93) dX11_does_68 (by decide) (fun c_ => absurd c_ (by decide +kernel)) (fun _ => ?_)
  refine z_aload_n dX11_does_71 rfl rfl ?_
  refine z_cV1 dX11_does_72 ml_X11_174 (sp_rpop he he8) rfl ⟨by decide, rfl⟩ rfl rfl (Nat.le_of_ble_eq_true rfl) ?_
  refine z_istore_n dX11_does_75 rfl (by decide) ?_
  show z_V _ _ _ _ _ _ _ _ _ [_, _, _, _, _] _ _
  refine z_aload_n dX11_does_76 rfl rfl ?_
  refine z_cV1 dX11_does_77 ml_X11_174 (sp_rpop (e := e) (show _ = nI (e + 1) by simp [rpo, z_up]) (by omega)) rfl ⟨by decide, rfl⟩ rfl rfl (Nat.le_of_ble_eq_true rfl) ?_
  rw [show rpo σ (e + 1) 97 e = σ 97 e from congrFun (z_up_ne _ _ _ (by decide)) e]
  refine z_istore dX11_does_80 (by decide) ?_
  show z_V _ _ _ _ _ _ _ _ _ [_, _, _, _, _] _ _
  refine z_aload_n dX11_does_82 rfl rfl ?_
  refine z_iload_n dX11_does_83 rfl rfl ?_
  refine z_iload dX11_does_84 rfl ?_
  refine z_iload_n dX11_does_86 rfl rfl ?_
  refine z_cS1 dX11_does_87 ml_X11_178 (sp_worked (by decide) (by decide)) rfl rfl (Nat.le_of_ble_eq_true rfl) ?_
  refine z_cV0 dX11_does_90 ml_X11_170 (sp_rpush (e := e) (show _ = nI e by simp [rpo, z_up]) (by omega)) rfl ⟨by decide, rfl⟩ rfl rfl (Nat.le_of_ble_eq_true rfl) ?_
  refine z_iload_n dX11_does_93 rfl rfl ?_
  refine z_bipush (v := nI 9) dX11_does_94 (by decide) ?_
  refine z_icmp_ne (tgt := 114) dX11_does_96 (by decide) (fun _ => ?_) (fun c_ => absurd c_ (by decide +kernel))
  refine z_iload_n dX11_does_114 rfl rfl ?_
  refine z_bipush (v := nI 10) dX11_does_115 (by decide) ?_
  refine z_icmp_ne (tgt := 125) dX11_does_117 (by decide) (fun _ => ?_) (fun c_ => absurd c_ (by decide +kernel))
  refine z_iload_n dX11_does_125 rfl rfl ?_
  refine z_bipush (v := nI 11) dX11_does_126 (by decide) ?_
  refine z_icmp_ne (tgt := 153) dX11_does_128 (by decide) (fun _ => ?_) (fun c_ => absurd c_ (by decide +kernel))
  refine z_iload_n dX11_does_153 rfl rfl ?_
  refine z_bipush (v := nI 12) dX11_does_154 (by decide) ?_
  refine z_icmp_ne (tgt := 167) dX11_does_156 (by decide) (fun _ => ?_) (fun c_ => absurd c_ (by decide +kernel))
  refine z_iload_n dX11_does_167 rfl rfl ?_
  refine z_bipush (v := nI 13) dX11_does_168 (by decide) ?_
  refine z_icmp_ne (tgt := 180) dX11_does_170 (by decide) (fun _ => ?_) (fun c_ => absurd c_ (by decide +kernel))
  refine z_iload_n dX11_does_180 rfl rfl ?_
  refine z_bipush (v := nI 14) dX11_does_181 (by decide) ?_
  refine z_icmp_ne (tgt := 206) dX11_does_183 (by decide) (fun _ => ?_) (fun c_ => absurd c_ (by decide +kernel))
  refine z_iload_n dX11_does_206 rfl rfl ?_
  refine z_bipush (v := nI 15) dX11_does_207 (by decide) ?_
  refine z_icmp_ne (tgt := 216) dX11_does_209 (by decide) (fun _ => ?_) (fun c_ => absurd c_ (by decide +kernel))
  refine z_iload_n dX11_does_216 rfl rfl ?_
  refine z_iconst (v := 1) dX11_does_217 (by decide) ?_
  refine z_iadd dX11_does_218 (nI_1 _) ?_
  exact z_iret dX11_does_219 rfl rfl rfl
set_option maxRecDepth 100000 in
set_option maxHeartbeats 4000000 in
theorem sp_ds6 {d : Nat} {σ : Nat → Nat → Int32} {τ : Nat → Nat → Int64} {k e : Nat} (hk : k < 40) (hop : σ 93 k = nI 6) (he : σ 92 9 = nI (e + 2)) (he8 : e + 1 < 8) : z_MV M_X11_does (d + 1) 0 0 [.ref 92, .int (nI k)] (124, z_r0, σ, τ) (some (.int (nI (k + 1)))) (124, z_r0, rpu (rpo (rpo σ (e + 1)) e) e (wk 6 (σ 97 e) (σ 97 (e + 1))), τ) := by
  refine z_MV.of pn_X11_does (Nat.le_of_ble_eq_true rfl) (by simp [Value.category]) rfl ?_
  show z_V _ _ _ _ _ _ _ _ _ [_, _, _, _, _] _ _
  refine z_aload_n dX11_does_0 rfl rfl ?_
  refine z_getR dX11_does_1 fl_X11_7 rfl rfl rfl ?_
  refine z_iload_n dX11_does_4 rfl rfl ?_
  refine z_iald dX11_does_5 rfl rfl (by omega) hop ?_
  refine z_istore_n dX11_does_6 rfl (by decide) ?_
  show z_V _ _ _ _ _ _ _ _ _ [_, _, _, _, _] _ _
  refine z_iload_n dX11_does_7 rfl rfl ?_
  refine z_if_ne (tgt := 21) dX11_does_8 (by decide) (fun _ => ?_) (fun c_ => absurd c_ (by decide +kernel))
  refine z_iload_n dX11_does_21 rfl rfl ?_
  refine z_iconst (v := 1) dX11_does_22 (by decide) ?_
  refine z_icmp_ne (tgt := 41) dX11_does_23 (by decide) (fun _ => ?_) (fun c_ => absurd c_ (by decide +kernel))
  refine z_iload_n dX11_does_41 rfl rfl ?_
  refine z_iconst (v := nI 2) dX11_does_42 (by decide) ?_
  refine z_icmp_ne (tgt := 61) dX11_does_43 (by decide) (fun _ => ?_) (fun c_ => absurd c_ (by decide +kernel))
  refine z_iload_n dX11_does_61 rfl rfl ?_
  refine z_iconst (v := nI 3) dX11_does_62 (by decide) ?_
  refine z_bipush (v := nI 8) dX11_does_63 (by decide) ?_
  refine z_cS1 dX11_does_65 ml_X11_114 (sp_within) rfl rfl (Nat.le_of_ble_eq_true rfl) ?_
  refine z_if_eq (tgt := 93) dX11_does_68 (by decide) (fun c_ => absurd c_ (by decide +kernel)) (fun _ => ?_)
  refine z_aload_n dX11_does_71 rfl rfl ?_
  refine z_cV1 dX11_does_72 ml_X11_174 (sp_rpop he he8) rfl ⟨by decide, rfl⟩ rfl rfl (Nat.le_of_ble_eq_true rfl) ?_
  refine z_istore_n dX11_does_75 rfl (by decide) ?_
  show z_V _ _ _ _ _ _ _ _ _ [_, _, _, _, _] _ _
  refine z_aload_n dX11_does_76 rfl rfl ?_
  refine z_cV1 dX11_does_77 ml_X11_174 (sp_rpop (e := e) (show _ = nI (e + 1) by simp [rpo, z_up]) (by omega)) rfl ⟨by decide, rfl⟩ rfl rfl (Nat.le_of_ble_eq_true rfl) ?_
  rw [show rpo σ (e + 1) 97 e = σ 97 e from congrFun (z_up_ne _ _ _ (by decide)) e]
  refine z_istore dX11_does_80 (by decide) ?_
  show z_V _ _ _ _ _ _ _ _ _ [_, _, _, _, _] _ _
  refine z_aload_n dX11_does_82 rfl rfl ?_
  refine z_iload_n dX11_does_83 rfl rfl ?_
  refine z_iload dX11_does_84 rfl ?_
  refine z_iload_n dX11_does_86 rfl rfl ?_
  refine z_cS1 dX11_does_87 ml_X11_178 (sp_worked (by decide) (by decide)) rfl rfl (Nat.le_of_ble_eq_true rfl) ?_
  refine z_cV0 dX11_does_90 ml_X11_170 (sp_rpush (e := e) (show _ = nI e by simp [rpo, z_up]) (by omega)) rfl ⟨by decide, rfl⟩ rfl rfl (Nat.le_of_ble_eq_true rfl) ?_
  refine z_iload_n dX11_does_93 rfl rfl ?_
  refine z_bipush (v := nI 9) dX11_does_94 (by decide) ?_
  refine z_icmp_ne (tgt := 114) dX11_does_96 (by decide) (fun _ => ?_) (fun c_ => absurd c_ (by decide +kernel))
  refine z_iload_n dX11_does_114 rfl rfl ?_
  refine z_bipush (v := nI 10) dX11_does_115 (by decide) ?_
  refine z_icmp_ne (tgt := 125) dX11_does_117 (by decide) (fun _ => ?_) (fun c_ => absurd c_ (by decide +kernel))
  refine z_iload_n dX11_does_125 rfl rfl ?_
  refine z_bipush (v := nI 11) dX11_does_126 (by decide) ?_
  refine z_icmp_ne (tgt := 153) dX11_does_128 (by decide) (fun _ => ?_) (fun c_ => absurd c_ (by decide +kernel))
  refine z_iload_n dX11_does_153 rfl rfl ?_
  refine z_bipush (v := nI 12) dX11_does_154 (by decide) ?_
  refine z_icmp_ne (tgt := 167) dX11_does_156 (by decide) (fun _ => ?_) (fun c_ => absurd c_ (by decide +kernel))
  refine z_iload_n dX11_does_167 rfl rfl ?_
  refine z_bipush (v := nI 13) dX11_does_168 (by decide) ?_
  refine z_icmp_ne (tgt := 180) dX11_does_170 (by decide) (fun _ => ?_) (fun c_ => absurd c_ (by decide +kernel))
  refine z_iload_n dX11_does_180 rfl rfl ?_
  refine z_bipush (v := nI 14) dX11_does_181 (by decide) ?_
  refine z_icmp_ne (tgt := 206) dX11_does_183 (by decide) (fun _ => ?_) (fun c_ => absurd c_ (by decide +kernel))
  refine z_iload_n dX11_does_206 rfl rfl ?_
  refine z_bipush (v := nI 15) dX11_does_207 (by decide) ?_
  refine z_icmp_ne (tgt := 216) dX11_does_209 (by decide) (fun _ => ?_) (fun c_ => absurd c_ (by decide +kernel))
  refine z_iload_n dX11_does_216 rfl rfl ?_
  refine z_iconst (v := 1) dX11_does_217 (by decide) ?_
  refine z_iadd dX11_does_218 (nI_1 _) ?_
  exact z_iret dX11_does_219 rfl rfl rfl
set_option maxRecDepth 100000 in
set_option maxHeartbeats 4000000 in
theorem sp_ds7 {d : Nat} {σ : Nat → Nat → Int32} {τ : Nat → Nat → Int64} {k e : Nat} (hk : k < 40) (hop : σ 93 k = nI 7) (he : σ 92 9 = nI (e + 2)) (he8 : e + 1 < 8) : z_MV M_X11_does (d + 1) 0 0 [.ref 92, .int (nI k)] (124, z_r0, σ, τ) (some (.int (nI (k + 1)))) (124, z_r0, rpu (rpo (rpo σ (e + 1)) e) e (wk 7 (σ 97 e) (σ 97 (e + 1))), τ) := by
  refine z_MV.of pn_X11_does (Nat.le_of_ble_eq_true rfl) (by simp [Value.category]) rfl ?_
  show z_V _ _ _ _ _ _ _ _ _ [_, _, _, _, _] _ _
  refine z_aload_n dX11_does_0 rfl rfl ?_
  refine z_getR dX11_does_1 fl_X11_7 rfl rfl rfl ?_
  refine z_iload_n dX11_does_4 rfl rfl ?_
  refine z_iald dX11_does_5 rfl rfl (by omega) hop ?_
  refine z_istore_n dX11_does_6 rfl (by decide) ?_
  show z_V _ _ _ _ _ _ _ _ _ [_, _, _, _, _] _ _
  refine z_iload_n dX11_does_7 rfl rfl ?_
  refine z_if_ne (tgt := 21) dX11_does_8 (by decide) (fun _ => ?_) (fun c_ => absurd c_ (by decide +kernel))
  refine z_iload_n dX11_does_21 rfl rfl ?_
  refine z_iconst (v := 1) dX11_does_22 (by decide) ?_
  refine z_icmp_ne (tgt := 41) dX11_does_23 (by decide) (fun _ => ?_) (fun c_ => absurd c_ (by decide +kernel))
  refine z_iload_n dX11_does_41 rfl rfl ?_
  refine z_iconst (v := nI 2) dX11_does_42 (by decide) ?_
  refine z_icmp_ne (tgt := 61) dX11_does_43 (by decide) (fun _ => ?_) (fun c_ => absurd c_ (by decide +kernel))
  refine z_iload_n dX11_does_61 rfl rfl ?_
  refine z_iconst (v := nI 3) dX11_does_62 (by decide) ?_
  refine z_bipush (v := nI 8) dX11_does_63 (by decide) ?_
  refine z_cS1 dX11_does_65 ml_X11_114 (sp_within) rfl rfl (Nat.le_of_ble_eq_true rfl) ?_
  refine z_if_eq (tgt := 93) dX11_does_68 (by decide) (fun c_ => absurd c_ (by decide +kernel)) (fun _ => ?_)
  refine z_aload_n dX11_does_71 rfl rfl ?_
  refine z_cV1 dX11_does_72 ml_X11_174 (sp_rpop he he8) rfl ⟨by decide, rfl⟩ rfl rfl (Nat.le_of_ble_eq_true rfl) ?_
  refine z_istore_n dX11_does_75 rfl (by decide) ?_
  show z_V _ _ _ _ _ _ _ _ _ [_, _, _, _, _] _ _
  refine z_aload_n dX11_does_76 rfl rfl ?_
  refine z_cV1 dX11_does_77 ml_X11_174 (sp_rpop (e := e) (show _ = nI (e + 1) by simp [rpo, z_up]) (by omega)) rfl ⟨by decide, rfl⟩ rfl rfl (Nat.le_of_ble_eq_true rfl) ?_
  rw [show rpo σ (e + 1) 97 e = σ 97 e from congrFun (z_up_ne _ _ _ (by decide)) e]
  refine z_istore dX11_does_80 (by decide) ?_
  show z_V _ _ _ _ _ _ _ _ _ [_, _, _, _, _] _ _
  refine z_aload_n dX11_does_82 rfl rfl ?_
  refine z_iload_n dX11_does_83 rfl rfl ?_
  refine z_iload dX11_does_84 rfl ?_
  refine z_iload_n dX11_does_86 rfl rfl ?_
  refine z_cS1 dX11_does_87 ml_X11_178 (sp_worked (by decide) (by decide)) rfl rfl (Nat.le_of_ble_eq_true rfl) ?_
  refine z_cV0 dX11_does_90 ml_X11_170 (sp_rpush (e := e) (show _ = nI e by simp [rpo, z_up]) (by omega)) rfl ⟨by decide, rfl⟩ rfl rfl (Nat.le_of_ble_eq_true rfl) ?_
  refine z_iload_n dX11_does_93 rfl rfl ?_
  refine z_bipush (v := nI 9) dX11_does_94 (by decide) ?_
  refine z_icmp_ne (tgt := 114) dX11_does_96 (by decide) (fun _ => ?_) (fun c_ => absurd c_ (by decide +kernel))
  refine z_iload_n dX11_does_114 rfl rfl ?_
  refine z_bipush (v := nI 10) dX11_does_115 (by decide) ?_
  refine z_icmp_ne (tgt := 125) dX11_does_117 (by decide) (fun _ => ?_) (fun c_ => absurd c_ (by decide +kernel))
  refine z_iload_n dX11_does_125 rfl rfl ?_
  refine z_bipush (v := nI 11) dX11_does_126 (by decide) ?_
  refine z_icmp_ne (tgt := 153) dX11_does_128 (by decide) (fun _ => ?_) (fun c_ => absurd c_ (by decide +kernel))
  refine z_iload_n dX11_does_153 rfl rfl ?_
  refine z_bipush (v := nI 12) dX11_does_154 (by decide) ?_
  refine z_icmp_ne (tgt := 167) dX11_does_156 (by decide) (fun _ => ?_) (fun c_ => absurd c_ (by decide +kernel))
  refine z_iload_n dX11_does_167 rfl rfl ?_
  refine z_bipush (v := nI 13) dX11_does_168 (by decide) ?_
  refine z_icmp_ne (tgt := 180) dX11_does_170 (by decide) (fun _ => ?_) (fun c_ => absurd c_ (by decide +kernel))
  refine z_iload_n dX11_does_180 rfl rfl ?_
  refine z_bipush (v := nI 14) dX11_does_181 (by decide) ?_
  refine z_icmp_ne (tgt := 206) dX11_does_183 (by decide) (fun _ => ?_) (fun c_ => absurd c_ (by decide +kernel))
  refine z_iload_n dX11_does_206 rfl rfl ?_
  refine z_bipush (v := nI 15) dX11_does_207 (by decide) ?_
  refine z_icmp_ne (tgt := 216) dX11_does_209 (by decide) (fun _ => ?_) (fun c_ => absurd c_ (by decide +kernel))
  refine z_iload_n dX11_does_216 rfl rfl ?_
  refine z_iconst (v := 1) dX11_does_217 (by decide) ?_
  refine z_iadd dX11_does_218 (nI_1 _) ?_
  exact z_iret dX11_does_219 rfl rfl rfl
set_option maxRecDepth 100000 in
set_option maxHeartbeats 4000000 in
theorem sp_ds8 {d : Nat} {σ : Nat → Nat → Int32} {τ : Nat → Nat → Int64} {k e : Nat} (hk : k < 40) (hop : σ 93 k = nI 8) (he : σ 92 9 = nI (e + 2)) (he8 : e + 1 < 8) : z_MV M_X11_does (d + 1) 0 0 [.ref 92, .int (nI k)] (124, z_r0, σ, τ) (some (.int (nI (k + 1)))) (124, z_r0, rpu (rpo (rpo σ (e + 1)) e) e (wk 8 (σ 97 e) (σ 97 (e + 1))), τ) := by
  refine z_MV.of pn_X11_does (Nat.le_of_ble_eq_true rfl) (by simp [Value.category]) rfl ?_
  show z_V _ _ _ _ _ _ _ _ _ [_, _, _, _, _] _ _
  refine z_aload_n dX11_does_0 rfl rfl ?_
  refine z_getR dX11_does_1 fl_X11_7 rfl rfl rfl ?_
  refine z_iload_n dX11_does_4 rfl rfl ?_
  refine z_iald dX11_does_5 rfl rfl (by omega) hop ?_
  refine z_istore_n dX11_does_6 rfl (by decide) ?_
  show z_V _ _ _ _ _ _ _ _ _ [_, _, _, _, _] _ _
  refine z_iload_n dX11_does_7 rfl rfl ?_
  refine z_if_ne (tgt := 21) dX11_does_8 (by decide) (fun _ => ?_) (fun c_ => absurd c_ (by decide +kernel))
  refine z_iload_n dX11_does_21 rfl rfl ?_
  refine z_iconst (v := 1) dX11_does_22 (by decide) ?_
  refine z_icmp_ne (tgt := 41) dX11_does_23 (by decide) (fun _ => ?_) (fun c_ => absurd c_ (by decide +kernel))
  refine z_iload_n dX11_does_41 rfl rfl ?_
  refine z_iconst (v := nI 2) dX11_does_42 (by decide) ?_
  refine z_icmp_ne (tgt := 61) dX11_does_43 (by decide) (fun _ => ?_) (fun c_ => absurd c_ (by decide +kernel))
  refine z_iload_n dX11_does_61 rfl rfl ?_
  refine z_iconst (v := nI 3) dX11_does_62 (by decide) ?_
  refine z_bipush (v := nI 8) dX11_does_63 (by decide) ?_
  refine z_cS1 dX11_does_65 ml_X11_114 (sp_within) rfl rfl (Nat.le_of_ble_eq_true rfl) ?_
  refine z_if_eq (tgt := 93) dX11_does_68 (by decide) (fun c_ => absurd c_ (by decide +kernel)) (fun _ => ?_)
  refine z_aload_n dX11_does_71 rfl rfl ?_
  refine z_cV1 dX11_does_72 ml_X11_174 (sp_rpop he he8) rfl ⟨by decide, rfl⟩ rfl rfl (Nat.le_of_ble_eq_true rfl) ?_
  refine z_istore_n dX11_does_75 rfl (by decide) ?_
  show z_V _ _ _ _ _ _ _ _ _ [_, _, _, _, _] _ _
  refine z_aload_n dX11_does_76 rfl rfl ?_
  refine z_cV1 dX11_does_77 ml_X11_174 (sp_rpop (e := e) (show _ = nI (e + 1) by simp [rpo, z_up]) (by omega)) rfl ⟨by decide, rfl⟩ rfl rfl (Nat.le_of_ble_eq_true rfl) ?_
  rw [show rpo σ (e + 1) 97 e = σ 97 e from congrFun (z_up_ne _ _ _ (by decide)) e]
  refine z_istore dX11_does_80 (by decide) ?_
  show z_V _ _ _ _ _ _ _ _ _ [_, _, _, _, _] _ _
  refine z_aload_n dX11_does_82 rfl rfl ?_
  refine z_iload_n dX11_does_83 rfl rfl ?_
  refine z_iload dX11_does_84 rfl ?_
  refine z_iload_n dX11_does_86 rfl rfl ?_
  refine z_cS1 dX11_does_87 ml_X11_178 (sp_worked (by decide) (by decide)) rfl rfl (Nat.le_of_ble_eq_true rfl) ?_
  refine z_cV0 dX11_does_90 ml_X11_170 (sp_rpush (e := e) (show _ = nI e by simp [rpo, z_up]) (by omega)) rfl ⟨by decide, rfl⟩ rfl rfl (Nat.le_of_ble_eq_true rfl) ?_
  refine z_iload_n dX11_does_93 rfl rfl ?_
  refine z_bipush (v := nI 9) dX11_does_94 (by decide) ?_
  refine z_icmp_ne (tgt := 114) dX11_does_96 (by decide) (fun _ => ?_) (fun c_ => absurd c_ (by decide +kernel))
  refine z_iload_n dX11_does_114 rfl rfl ?_
  refine z_bipush (v := nI 10) dX11_does_115 (by decide) ?_
  refine z_icmp_ne (tgt := 125) dX11_does_117 (by decide) (fun _ => ?_) (fun c_ => absurd c_ (by decide +kernel))
  refine z_iload_n dX11_does_125 rfl rfl ?_
  refine z_bipush (v := nI 11) dX11_does_126 (by decide) ?_
  refine z_icmp_ne (tgt := 153) dX11_does_128 (by decide) (fun _ => ?_) (fun c_ => absurd c_ (by decide +kernel))
  refine z_iload_n dX11_does_153 rfl rfl ?_
  refine z_bipush (v := nI 12) dX11_does_154 (by decide) ?_
  refine z_icmp_ne (tgt := 167) dX11_does_156 (by decide) (fun _ => ?_) (fun c_ => absurd c_ (by decide +kernel))
  refine z_iload_n dX11_does_167 rfl rfl ?_
  refine z_bipush (v := nI 13) dX11_does_168 (by decide) ?_
  refine z_icmp_ne (tgt := 180) dX11_does_170 (by decide) (fun _ => ?_) (fun c_ => absurd c_ (by decide +kernel))
  refine z_iload_n dX11_does_180 rfl rfl ?_
  refine z_bipush (v := nI 14) dX11_does_181 (by decide) ?_
  refine z_icmp_ne (tgt := 206) dX11_does_183 (by decide) (fun _ => ?_) (fun c_ => absurd c_ (by decide +kernel))
  refine z_iload_n dX11_does_206 rfl rfl ?_
  refine z_bipush (v := nI 15) dX11_does_207 (by decide) ?_
  refine z_icmp_ne (tgt := 216) dX11_does_209 (by decide) (fun _ => ?_) (fun c_ => absurd c_ (by decide +kernel))
  refine z_iload_n dX11_does_216 rfl rfl ?_
  refine z_iconst (v := 1) dX11_does_217 (by decide) ?_
  refine z_iadd dX11_does_218 (nI_1 _) ?_
  exact z_iret dX11_does_219 rfl rfl rfl
set_option maxRecDepth 100000 in
set_option maxHeartbeats 4000000 in
theorem sp_ds9 {d : Nat} {σ : Nat → Nat → Int32} {τ : Nat → Nat → Int64} {k e : Nat} (hk : k < 40) (hop : σ 93 k = nI 9) (he : σ 92 9 = nI (e + 1)) (he8 : e + 1 < 8) : z_MV M_X11_does (d + 1) 0 0 [.ref 92, .int (nI k)] (124, z_r0, σ, τ) (some (.int (nI (k + 1)))) (124, z_r0, rpu σ (e + 1) (σ 97 e), τ) := by
  refine z_MV.of pn_X11_does (Nat.le_of_ble_eq_true rfl) (by simp [Value.category]) rfl ?_
  show z_V _ _ _ _ _ _ _ _ _ [_, _, _, _, _] _ _
  refine z_aload_n dX11_does_0 rfl rfl ?_
  refine z_getR dX11_does_1 fl_X11_7 rfl rfl rfl ?_
  refine z_iload_n dX11_does_4 rfl rfl ?_
  refine z_iald dX11_does_5 rfl rfl (by omega) hop ?_
  refine z_istore_n dX11_does_6 rfl (by decide) ?_
  show z_V _ _ _ _ _ _ _ _ _ [_, _, _, _, _] _ _
  refine z_iload_n dX11_does_7 rfl rfl ?_
  refine z_if_ne (tgt := 21) dX11_does_8 (by decide) (fun _ => ?_) (fun c_ => absurd c_ (by decide +kernel))
  refine z_iload_n dX11_does_21 rfl rfl ?_
  refine z_iconst (v := 1) dX11_does_22 (by decide) ?_
  refine z_icmp_ne (tgt := 41) dX11_does_23 (by decide) (fun _ => ?_) (fun c_ => absurd c_ (by decide +kernel))
  refine z_iload_n dX11_does_41 rfl rfl ?_
  refine z_iconst (v := nI 2) dX11_does_42 (by decide) ?_
  refine z_icmp_ne (tgt := 61) dX11_does_43 (by decide) (fun _ => ?_) (fun c_ => absurd c_ (by decide +kernel))
  refine z_iload_n dX11_does_61 rfl rfl ?_
  refine z_iconst (v := nI 3) dX11_does_62 (by decide) ?_
  refine z_bipush (v := nI 8) dX11_does_63 (by decide) ?_
  refine z_cS1 dX11_does_65 ml_X11_114 (sp_within) rfl rfl (Nat.le_of_ble_eq_true rfl) ?_
  refine z_if_eq (tgt := 93) dX11_does_68 (by decide) (fun _ => ?_) (fun c_ => absurd (by decide +kernel) c_)
  refine z_iload_n dX11_does_93 rfl rfl ?_
  refine z_bipush (v := nI 9) dX11_does_94 (by decide) ?_
  refine z_icmp_ne (tgt := 114) dX11_does_96 (by decide) (fun c_ => absurd (by decide +kernel) c_) (fun _ => ?_)
  refine z_aload_n dX11_does_99 rfl rfl ?_
  refine z_aload_n dX11_does_100 rfl rfl ?_
  refine z_getR dX11_does_101 fl_X11_26 rfl rfl rfl ?_
  refine z_aload_n dX11_does_104 rfl rfl ?_
  refine z_getI dX11_does_105 fl_X11_139 rfl rfl he ?_
  refine z_iconst (v := 1) dX11_does_108 (by decide) ?_
  refine z_isub dX11_does_109 (nI_pred e) ?_
  refine z_iald dX11_does_110 rfl rfl (by omega) rfl ?_
  refine z_cV0 dX11_does_111 ml_X11_170 (sp_rpush he he8) rfl ⟨by decide, rfl⟩ rfl rfl (Nat.le_of_ble_eq_true rfl) ?_
  refine z_iload_n dX11_does_114 rfl rfl ?_
  refine z_bipush (v := nI 10) dX11_does_115 (by decide) ?_
  refine z_icmp_ne (tgt := 125) dX11_does_117 (by decide) (fun _ => ?_) (fun c_ => absurd c_ (by decide +kernel))
  refine z_iload_n dX11_does_125 rfl rfl ?_
  refine z_bipush (v := nI 11) dX11_does_126 (by decide) ?_
  refine z_icmp_ne (tgt := 153) dX11_does_128 (by decide) (fun _ => ?_) (fun c_ => absurd c_ (by decide +kernel))
  refine z_iload_n dX11_does_153 rfl rfl ?_
  refine z_bipush (v := nI 12) dX11_does_154 (by decide) ?_
  refine z_icmp_ne (tgt := 167) dX11_does_156 (by decide) (fun _ => ?_) (fun c_ => absurd c_ (by decide +kernel))
  refine z_iload_n dX11_does_167 rfl rfl ?_
  refine z_bipush (v := nI 13) dX11_does_168 (by decide) ?_
  refine z_icmp_ne (tgt := 180) dX11_does_170 (by decide) (fun _ => ?_) (fun c_ => absurd c_ (by decide +kernel))
  refine z_iload_n dX11_does_180 rfl rfl ?_
  refine z_bipush (v := nI 14) dX11_does_181 (by decide) ?_
  refine z_icmp_ne (tgt := 206) dX11_does_183 (by decide) (fun _ => ?_) (fun c_ => absurd c_ (by decide +kernel))
  refine z_iload_n dX11_does_206 rfl rfl ?_
  refine z_bipush (v := nI 15) dX11_does_207 (by decide) ?_
  refine z_icmp_ne (tgt := 216) dX11_does_209 (by decide) (fun _ => ?_) (fun c_ => absurd c_ (by decide +kernel))
  refine z_iload_n dX11_does_216 rfl rfl ?_
  refine z_iconst (v := 1) dX11_does_217 (by decide) ?_
  refine z_iadd dX11_does_218 (nI_1 _) ?_
  exact z_iret dX11_does_219 rfl rfl rfl
set_option maxRecDepth 100000 in
set_option maxHeartbeats 4000000 in
theorem sp_ds10 {d : Nat} {σ : Nat → Nat → Int32} {τ : Nat → Nat → Int64} {k e : Nat} (hk : k < 40) (hop : σ 93 k = nI 10) (he : σ 92 9 = nI (e + 1)) (he8 : e < 8) : z_MV M_X11_does (d + 1) 0 0 [.ref 92, .int (nI k)] (124, z_r0, σ, τ) (some (.int (nI (k + 1)))) (124, z_r0, rpo σ e, τ) := by
  refine z_MV.of pn_X11_does (Nat.le_of_ble_eq_true rfl) (by simp [Value.category]) rfl ?_
  show z_V _ _ _ _ _ _ _ _ _ [_, _, _, _, _] _ _
  refine z_aload_n dX11_does_0 rfl rfl ?_
  refine z_getR dX11_does_1 fl_X11_7 rfl rfl rfl ?_
  refine z_iload_n dX11_does_4 rfl rfl ?_
  refine z_iald dX11_does_5 rfl rfl (by omega) hop ?_
  refine z_istore_n dX11_does_6 rfl (by decide) ?_
  show z_V _ _ _ _ _ _ _ _ _ [_, _, _, _, _] _ _
  refine z_iload_n dX11_does_7 rfl rfl ?_
  refine z_if_ne (tgt := 21) dX11_does_8 (by decide) (fun _ => ?_) (fun c_ => absurd c_ (by decide +kernel))
  refine z_iload_n dX11_does_21 rfl rfl ?_
  refine z_iconst (v := 1) dX11_does_22 (by decide) ?_
  refine z_icmp_ne (tgt := 41) dX11_does_23 (by decide) (fun _ => ?_) (fun c_ => absurd c_ (by decide +kernel))
  refine z_iload_n dX11_does_41 rfl rfl ?_
  refine z_iconst (v := nI 2) dX11_does_42 (by decide) ?_
  refine z_icmp_ne (tgt := 61) dX11_does_43 (by decide) (fun _ => ?_) (fun c_ => absurd c_ (by decide +kernel))
  refine z_iload_n dX11_does_61 rfl rfl ?_
  refine z_iconst (v := nI 3) dX11_does_62 (by decide) ?_
  refine z_bipush (v := nI 8) dX11_does_63 (by decide) ?_
  refine z_cS1 dX11_does_65 ml_X11_114 (sp_within) rfl rfl (Nat.le_of_ble_eq_true rfl) ?_
  refine z_if_eq (tgt := 93) dX11_does_68 (by decide) (fun _ => ?_) (fun c_ => absurd (by decide +kernel) c_)
  refine z_iload_n dX11_does_93 rfl rfl ?_
  refine z_bipush (v := nI 9) dX11_does_94 (by decide) ?_
  refine z_icmp_ne (tgt := 114) dX11_does_96 (by decide) (fun _ => ?_) (fun c_ => absurd c_ (by decide +kernel))
  refine z_iload_n dX11_does_114 rfl rfl ?_
  refine z_bipush (v := nI 10) dX11_does_115 (by decide) ?_
  refine z_icmp_ne (tgt := 125) dX11_does_117 (by decide) (fun c_ => absurd (by decide +kernel) c_) (fun _ => ?_)
  refine z_aload_n dX11_does_120 rfl rfl ?_
  refine z_cV1 dX11_does_121 ml_X11_174 (sp_rpop he he8) rfl ⟨by decide, rfl⟩ rfl rfl (Nat.le_of_ble_eq_true rfl) ?_
  refine z_pop dX11_does_124 rfl ?_
  refine z_iload_n dX11_does_125 rfl rfl ?_
  refine z_bipush (v := nI 11) dX11_does_126 (by decide) ?_
  refine z_icmp_ne (tgt := 153) dX11_does_128 (by decide) (fun _ => ?_) (fun c_ => absurd c_ (by decide +kernel))
  refine z_iload_n dX11_does_153 rfl rfl ?_
  refine z_bipush (v := nI 12) dX11_does_154 (by decide) ?_
  refine z_icmp_ne (tgt := 167) dX11_does_156 (by decide) (fun _ => ?_) (fun c_ => absurd c_ (by decide +kernel))
  refine z_iload_n dX11_does_167 rfl rfl ?_
  refine z_bipush (v := nI 13) dX11_does_168 (by decide) ?_
  refine z_icmp_ne (tgt := 180) dX11_does_170 (by decide) (fun _ => ?_) (fun c_ => absurd c_ (by decide +kernel))
  refine z_iload_n dX11_does_180 rfl rfl ?_
  refine z_bipush (v := nI 14) dX11_does_181 (by decide) ?_
  refine z_icmp_ne (tgt := 206) dX11_does_183 (by decide) (fun _ => ?_) (fun c_ => absurd c_ (by decide +kernel))
  refine z_iload_n dX11_does_206 rfl rfl ?_
  refine z_bipush (v := nI 15) dX11_does_207 (by decide) ?_
  refine z_icmp_ne (tgt := 216) dX11_does_209 (by decide) (fun _ => ?_) (fun c_ => absurd c_ (by decide +kernel))
  refine z_iload_n dX11_does_216 rfl rfl ?_
  refine z_iconst (v := 1) dX11_does_217 (by decide) ?_
  refine z_iadd dX11_does_218 (nI_1 _) ?_
  exact z_iret dX11_does_219 rfl rfl rfl
set_option maxRecDepth 100000 in
set_option maxHeartbeats 4000000 in
theorem sp_ds11 {d : Nat} {σ : Nat → Nat → Int32} {τ : Nat → Nat → Int64} {k e : Nat} (hk : k < 40) (hop : σ 93 k = nI 11) (he : σ 92 9 = nI (e + 2)) (he8 : e + 1 < 8) : z_MV M_X11_does (d + 1) 0 0 [.ref 92, .int (nI k)] (124, z_r0, σ, τ) (some (.int (nI (k + 1)))) (124, z_r0, rpu (rpu (rpo (rpo σ (e + 1)) e) e (σ 97 (e + 1))) (e + 1) (σ 97 e), τ) := by
  refine z_MV.of pn_X11_does (Nat.le_of_ble_eq_true rfl) (by simp [Value.category]) rfl ?_
  show z_V _ _ _ _ _ _ _ _ _ [_, _, _, _, _] _ _
  refine z_aload_n dX11_does_0 rfl rfl ?_
  refine z_getR dX11_does_1 fl_X11_7 rfl rfl rfl ?_
  refine z_iload_n dX11_does_4 rfl rfl ?_
  refine z_iald dX11_does_5 rfl rfl (by omega) hop ?_
  refine z_istore_n dX11_does_6 rfl (by decide) ?_
  show z_V _ _ _ _ _ _ _ _ _ [_, _, _, _, _] _ _
  refine z_iload_n dX11_does_7 rfl rfl ?_
  refine z_if_ne (tgt := 21) dX11_does_8 (by decide) (fun _ => ?_) (fun c_ => absurd c_ (by decide +kernel))
  refine z_iload_n dX11_does_21 rfl rfl ?_
  refine z_iconst (v := 1) dX11_does_22 (by decide) ?_
  refine z_icmp_ne (tgt := 41) dX11_does_23 (by decide) (fun _ => ?_) (fun c_ => absurd c_ (by decide +kernel))
  refine z_iload_n dX11_does_41 rfl rfl ?_
  refine z_iconst (v := nI 2) dX11_does_42 (by decide) ?_
  refine z_icmp_ne (tgt := 61) dX11_does_43 (by decide) (fun _ => ?_) (fun c_ => absurd c_ (by decide +kernel))
  refine z_iload_n dX11_does_61 rfl rfl ?_
  refine z_iconst (v := nI 3) dX11_does_62 (by decide) ?_
  refine z_bipush (v := nI 8) dX11_does_63 (by decide) ?_
  refine z_cS1 dX11_does_65 ml_X11_114 (sp_within) rfl rfl (Nat.le_of_ble_eq_true rfl) ?_
  refine z_if_eq (tgt := 93) dX11_does_68 (by decide) (fun _ => ?_) (fun c_ => absurd (by decide +kernel) c_)
  refine z_iload_n dX11_does_93 rfl rfl ?_
  refine z_bipush (v := nI 9) dX11_does_94 (by decide) ?_
  refine z_icmp_ne (tgt := 114) dX11_does_96 (by decide) (fun _ => ?_) (fun c_ => absurd c_ (by decide +kernel))
  refine z_iload_n dX11_does_114 rfl rfl ?_
  refine z_bipush (v := nI 10) dX11_does_115 (by decide) ?_
  refine z_icmp_ne (tgt := 125) dX11_does_117 (by decide) (fun _ => ?_) (fun c_ => absurd c_ (by decide +kernel))
  refine z_iload_n dX11_does_125 rfl rfl ?_
  refine z_bipush (v := nI 11) dX11_does_126 (by decide) ?_
  refine z_icmp_ne (tgt := 153) dX11_does_128 (by decide) (fun c_ => absurd (by decide +kernel) c_) (fun _ => ?_)
  refine z_aload_n dX11_does_131 rfl rfl ?_
  refine z_cV1 dX11_does_132 ml_X11_174 (sp_rpop he he8) rfl ⟨by decide, rfl⟩ rfl rfl (Nat.le_of_ble_eq_true rfl) ?_
  refine z_istore_n dX11_does_135 rfl (by decide) ?_
  show z_V _ _ _ _ _ _ _ _ _ [_, _, _, _, _] _ _
  refine z_aload_n dX11_does_136 rfl rfl ?_
  refine z_cV1 dX11_does_137 ml_X11_174 (sp_rpop (e := e) (show _ = nI (e + 1) by simp [rpo, z_up]) (by omega)) rfl ⟨by decide, rfl⟩ rfl rfl (Nat.le_of_ble_eq_true rfl) ?_
  rw [show rpo σ (e + 1) 97 e = σ 97 e from congrFun (z_up_ne _ _ _ (by decide)) e]
  refine z_istore dX11_does_140 (by decide) ?_
  show z_V _ _ _ _ _ _ _ _ _ [_, _, _, _, _] _ _
  refine z_aload_n dX11_does_142 rfl rfl ?_
  refine z_iload_n dX11_does_143 rfl rfl ?_
  refine z_cV0 dX11_does_144 ml_X11_170 (sp_rpush (e := e) (show _ = nI e by simp [rpo, z_up]) (by omega)) rfl ⟨by decide, rfl⟩ rfl rfl (Nat.le_of_ble_eq_true rfl) ?_
  refine z_aload_n dX11_does_147 rfl rfl ?_
  refine z_iload dX11_does_148 rfl ?_
  refine z_cV0 dX11_does_150 ml_X11_170 (sp_rpush (e := e + 1) (show _ = nI (e + 1) by simp [rpu, z_up]) (by omega)) rfl ⟨by decide, rfl⟩ rfl rfl (Nat.le_of_ble_eq_true rfl) ?_
  refine z_iload_n dX11_does_153 rfl rfl ?_
  refine z_bipush (v := nI 12) dX11_does_154 (by decide) ?_
  refine z_icmp_ne (tgt := 167) dX11_does_156 (by decide) (fun _ => ?_) (fun c_ => absurd c_ (by decide +kernel))
  refine z_iload_n dX11_does_167 rfl rfl ?_
  refine z_bipush (v := nI 13) dX11_does_168 (by decide) ?_
  refine z_icmp_ne (tgt := 180) dX11_does_170 (by decide) (fun _ => ?_) (fun c_ => absurd c_ (by decide +kernel))
  refine z_iload_n dX11_does_180 rfl rfl ?_
  refine z_bipush (v := nI 14) dX11_does_181 (by decide) ?_
  refine z_icmp_ne (tgt := 206) dX11_does_183 (by decide) (fun _ => ?_) (fun c_ => absurd c_ (by decide +kernel))
  refine z_iload_n dX11_does_206 rfl rfl ?_
  refine z_bipush (v := nI 15) dX11_does_207 (by decide) ?_
  refine z_icmp_ne (tgt := 216) dX11_does_209 (by decide) (fun _ => ?_) (fun c_ => absurd c_ (by decide +kernel))
  refine z_iload_n dX11_does_216 rfl rfl ?_
  refine z_iconst (v := 1) dX11_does_217 (by decide) ?_
  refine z_iadd dX11_does_218 (nI_1 _) ?_
  exact z_iret dX11_does_219 rfl rfl rfl
set_option maxRecDepth 100000 in
set_option maxHeartbeats 4000000 in
theorem sp_ds12 {d : Nat} {σ : Nat → Nat → Int32} {τ : Nat → Nat → Int64} {k e : Nat} (hk : k < 40) (hop : σ 93 k = nI 12) (he : σ 92 9 = nI (e + 1)) (he8 : e < 8) : z_MV M_X11_does (d + 1) 0 0 [.ref 92, .int (nI k)] (124, z_r0, σ, τ) (some (.int (nI (k + 1)))) (124, z_r0, rgv (rpo σ e) (σ 97 e), τ) := by
  refine z_MV.of pn_X11_does (Nat.le_of_ble_eq_true rfl) (by simp [Value.category]) rfl ?_
  show z_V _ _ _ _ _ _ _ _ _ [_, _, _, _, _] _ _
  refine z_aload_n dX11_does_0 rfl rfl ?_
  refine z_getR dX11_does_1 fl_X11_7 rfl rfl rfl ?_
  refine z_iload_n dX11_does_4 rfl rfl ?_
  refine z_iald dX11_does_5 rfl rfl (by omega) hop ?_
  refine z_istore_n dX11_does_6 rfl (by decide) ?_
  show z_V _ _ _ _ _ _ _ _ _ [_, _, _, _, _] _ _
  refine z_iload_n dX11_does_7 rfl rfl ?_
  refine z_if_ne (tgt := 21) dX11_does_8 (by decide) (fun _ => ?_) (fun c_ => absurd c_ (by decide +kernel))
  refine z_iload_n dX11_does_21 rfl rfl ?_
  refine z_iconst (v := 1) dX11_does_22 (by decide) ?_
  refine z_icmp_ne (tgt := 41) dX11_does_23 (by decide) (fun _ => ?_) (fun c_ => absurd c_ (by decide +kernel))
  refine z_iload_n dX11_does_41 rfl rfl ?_
  refine z_iconst (v := nI 2) dX11_does_42 (by decide) ?_
  refine z_icmp_ne (tgt := 61) dX11_does_43 (by decide) (fun _ => ?_) (fun c_ => absurd c_ (by decide +kernel))
  refine z_iload_n dX11_does_61 rfl rfl ?_
  refine z_iconst (v := nI 3) dX11_does_62 (by decide) ?_
  refine z_bipush (v := nI 8) dX11_does_63 (by decide) ?_
  refine z_cS1 dX11_does_65 ml_X11_114 (sp_within) rfl rfl (Nat.le_of_ble_eq_true rfl) ?_
  refine z_if_eq (tgt := 93) dX11_does_68 (by decide) (fun _ => ?_) (fun c_ => absurd (by decide +kernel) c_)
  refine z_iload_n dX11_does_93 rfl rfl ?_
  refine z_bipush (v := nI 9) dX11_does_94 (by decide) ?_
  refine z_icmp_ne (tgt := 114) dX11_does_96 (by decide) (fun _ => ?_) (fun c_ => absurd c_ (by decide +kernel))
  refine z_iload_n dX11_does_114 rfl rfl ?_
  refine z_bipush (v := nI 10) dX11_does_115 (by decide) ?_
  refine z_icmp_ne (tgt := 125) dX11_does_117 (by decide) (fun _ => ?_) (fun c_ => absurd c_ (by decide +kernel))
  refine z_iload_n dX11_does_125 rfl rfl ?_
  refine z_bipush (v := nI 11) dX11_does_126 (by decide) ?_
  refine z_icmp_ne (tgt := 153) dX11_does_128 (by decide) (fun _ => ?_) (fun c_ => absurd c_ (by decide +kernel))
  refine z_iload_n dX11_does_153 rfl rfl ?_
  refine z_bipush (v := nI 12) dX11_does_154 (by decide) ?_
  refine z_icmp_ne (tgt := 167) dX11_does_156 (by decide) (fun c_ => absurd (by decide +kernel) c_) (fun _ => ?_)
  refine z_aload_n dX11_does_159 rfl rfl ?_
  refine z_aload_n dX11_does_160 rfl rfl ?_
  refine z_cV1 dX11_does_161 ml_X11_174 (sp_rpop he he8) rfl ⟨by decide, rfl⟩ rfl rfl (Nat.le_of_ble_eq_true rfl) ?_
  refine z_cV0 dX11_does_164 ml_X11_182 (sp_rgive) rfl ⟨by decide, rfl⟩ rfl rfl (Nat.le_of_ble_eq_true rfl) ?_
  refine z_iload_n dX11_does_167 rfl rfl ?_
  refine z_bipush (v := nI 13) dX11_does_168 (by decide) ?_
  refine z_icmp_ne (tgt := 180) dX11_does_170 (by decide) (fun _ => ?_) (fun c_ => absurd c_ (by decide +kernel))
  refine z_iload_n dX11_does_180 rfl rfl ?_
  refine z_bipush (v := nI 14) dX11_does_181 (by decide) ?_
  refine z_icmp_ne (tgt := 206) dX11_does_183 (by decide) (fun _ => ?_) (fun c_ => absurd c_ (by decide +kernel))
  refine z_iload_n dX11_does_206 rfl rfl ?_
  refine z_bipush (v := nI 15) dX11_does_207 (by decide) ?_
  refine z_icmp_ne (tgt := 216) dX11_does_209 (by decide) (fun _ => ?_) (fun c_ => absurd c_ (by decide +kernel))
  refine z_iload_n dX11_does_216 rfl rfl ?_
  refine z_iconst (v := 1) dX11_does_217 (by decide) ?_
  refine z_iadd dX11_does_218 (nI_1 _) ?_
  exact z_iret dX11_does_219 rfl rfl rfl
set_option maxRecDepth 100000 in
set_option maxHeartbeats 4000000 in
theorem sp_ds13 {d : Nat} {σ : Nat → Nat → Int32} {τ : Nat → Nat → Int64} {k e : Nat} (hk : k < 40) (hop : σ 93 k = nI 13) : z_MV M_X11_does (d + 1) 0 0 [.ref 92, .int (nI k)] (124, z_r0, σ, τ) (some (.int (σ 94 k))) (124, z_r0, σ, τ) := by
  refine z_MV.of pn_X11_does (Nat.le_of_ble_eq_true rfl) (by simp [Value.category]) rfl ?_
  show z_V _ _ _ _ _ _ _ _ _ [_, _, _, _, _] _ _
  refine z_aload_n dX11_does_0 rfl rfl ?_
  refine z_getR dX11_does_1 fl_X11_7 rfl rfl rfl ?_
  refine z_iload_n dX11_does_4 rfl rfl ?_
  refine z_iald dX11_does_5 rfl rfl (by omega) hop ?_
  refine z_istore_n dX11_does_6 rfl (by decide) ?_
  show z_V _ _ _ _ _ _ _ _ _ [_, _, _, _, _] _ _
  refine z_iload_n dX11_does_7 rfl rfl ?_
  refine z_if_ne (tgt := 21) dX11_does_8 (by decide) (fun _ => ?_) (fun c_ => absurd c_ (by decide +kernel))
  refine z_iload_n dX11_does_21 rfl rfl ?_
  refine z_iconst (v := 1) dX11_does_22 (by decide) ?_
  refine z_icmp_ne (tgt := 41) dX11_does_23 (by decide) (fun _ => ?_) (fun c_ => absurd c_ (by decide +kernel))
  refine z_iload_n dX11_does_41 rfl rfl ?_
  refine z_iconst (v := nI 2) dX11_does_42 (by decide) ?_
  refine z_icmp_ne (tgt := 61) dX11_does_43 (by decide) (fun _ => ?_) (fun c_ => absurd c_ (by decide +kernel))
  refine z_iload_n dX11_does_61 rfl rfl ?_
  refine z_iconst (v := nI 3) dX11_does_62 (by decide) ?_
  refine z_bipush (v := nI 8) dX11_does_63 (by decide) ?_
  refine z_cS1 dX11_does_65 ml_X11_114 (sp_within) rfl rfl (Nat.le_of_ble_eq_true rfl) ?_
  refine z_if_eq (tgt := 93) dX11_does_68 (by decide) (fun _ => ?_) (fun c_ => absurd (by decide +kernel) c_)
  refine z_iload_n dX11_does_93 rfl rfl ?_
  refine z_bipush (v := nI 9) dX11_does_94 (by decide) ?_
  refine z_icmp_ne (tgt := 114) dX11_does_96 (by decide) (fun _ => ?_) (fun c_ => absurd c_ (by decide +kernel))
  refine z_iload_n dX11_does_114 rfl rfl ?_
  refine z_bipush (v := nI 10) dX11_does_115 (by decide) ?_
  refine z_icmp_ne (tgt := 125) dX11_does_117 (by decide) (fun _ => ?_) (fun c_ => absurd c_ (by decide +kernel))
  refine z_iload_n dX11_does_125 rfl rfl ?_
  refine z_bipush (v := nI 11) dX11_does_126 (by decide) ?_
  refine z_icmp_ne (tgt := 153) dX11_does_128 (by decide) (fun _ => ?_) (fun c_ => absurd c_ (by decide +kernel))
  refine z_iload_n dX11_does_153 rfl rfl ?_
  refine z_bipush (v := nI 12) dX11_does_154 (by decide) ?_
  refine z_icmp_ne (tgt := 167) dX11_does_156 (by decide) (fun _ => ?_) (fun c_ => absurd c_ (by decide +kernel))
  refine z_iload_n dX11_does_167 rfl rfl ?_
  refine z_bipush (v := nI 13) dX11_does_168 (by decide) ?_
  refine z_icmp_ne (tgt := 180) dX11_does_170 (by decide) (fun c_ => absurd (by decide +kernel) c_) (fun _ => ?_)
  refine z_aload_n dX11_does_173 rfl rfl ?_
  refine z_getR dX11_does_174 fl_X11_13 rfl rfl rfl ?_
  refine z_iload_n dX11_does_177 rfl rfl ?_
  refine z_iald dX11_does_178 rfl rfl (by omega) rfl ?_
  exact z_iret dX11_does_179 rfl rfl rfl
set_option maxRecDepth 100000 in
set_option maxHeartbeats 4000000 in
theorem sp_ds14 {d : Nat} {σ : Nat → Nat → Int32} {τ : Nat → Nat → Int64} {k e : Nat} (hk : k < 40) (hop : σ 93 k = nI 14) (he : σ 92 9 = nI (e + 1)) (he8 : e < 8) : z_MV M_X11_does (d + 1) 0 0 [.ref 92, .int (nI k)] (124, z_r0, σ, τ) (some (.int (if σ 97 e = 0 then nI (k + 1) else σ 94 k))) (124, z_r0, rpo σ e, τ) := by
  refine z_MV.of pn_X11_does (Nat.le_of_ble_eq_true rfl) (by simp [Value.category]) rfl ?_
  show z_V _ _ _ _ _ _ _ _ _ [_, _, _, _, _] _ _
  refine z_aload_n dX11_does_0 rfl rfl ?_
  refine z_getR dX11_does_1 fl_X11_7 rfl rfl rfl ?_
  refine z_iload_n dX11_does_4 rfl rfl ?_
  refine z_iald dX11_does_5 rfl rfl (by omega) hop ?_
  refine z_istore_n dX11_does_6 rfl (by decide) ?_
  show z_V _ _ _ _ _ _ _ _ _ [_, _, _, _, _] _ _
  refine z_iload_n dX11_does_7 rfl rfl ?_
  refine z_if_ne (tgt := 21) dX11_does_8 (by decide) (fun _ => ?_) (fun c_ => absurd c_ (by decide +kernel))
  refine z_iload_n dX11_does_21 rfl rfl ?_
  refine z_iconst (v := 1) dX11_does_22 (by decide) ?_
  refine z_icmp_ne (tgt := 41) dX11_does_23 (by decide) (fun _ => ?_) (fun c_ => absurd c_ (by decide +kernel))
  refine z_iload_n dX11_does_41 rfl rfl ?_
  refine z_iconst (v := nI 2) dX11_does_42 (by decide) ?_
  refine z_icmp_ne (tgt := 61) dX11_does_43 (by decide) (fun _ => ?_) (fun c_ => absurd c_ (by decide +kernel))
  refine z_iload_n dX11_does_61 rfl rfl ?_
  refine z_iconst (v := nI 3) dX11_does_62 (by decide) ?_
  refine z_bipush (v := nI 8) dX11_does_63 (by decide) ?_
  refine z_cS1 dX11_does_65 ml_X11_114 (sp_within) rfl rfl (Nat.le_of_ble_eq_true rfl) ?_
  refine z_if_eq (tgt := 93) dX11_does_68 (by decide) (fun _ => ?_) (fun c_ => absurd (by decide +kernel) c_)
  refine z_iload_n dX11_does_93 rfl rfl ?_
  refine z_bipush (v := nI 9) dX11_does_94 (by decide) ?_
  refine z_icmp_ne (tgt := 114) dX11_does_96 (by decide) (fun _ => ?_) (fun c_ => absurd c_ (by decide +kernel))
  refine z_iload_n dX11_does_114 rfl rfl ?_
  refine z_bipush (v := nI 10) dX11_does_115 (by decide) ?_
  refine z_icmp_ne (tgt := 125) dX11_does_117 (by decide) (fun _ => ?_) (fun c_ => absurd c_ (by decide +kernel))
  refine z_iload_n dX11_does_125 rfl rfl ?_
  refine z_bipush (v := nI 11) dX11_does_126 (by decide) ?_
  refine z_icmp_ne (tgt := 153) dX11_does_128 (by decide) (fun _ => ?_) (fun c_ => absurd c_ (by decide +kernel))
  refine z_iload_n dX11_does_153 rfl rfl ?_
  refine z_bipush (v := nI 12) dX11_does_154 (by decide) ?_
  refine z_icmp_ne (tgt := 167) dX11_does_156 (by decide) (fun _ => ?_) (fun c_ => absurd c_ (by decide +kernel))
  refine z_iload_n dX11_does_167 rfl rfl ?_
  refine z_bipush (v := nI 13) dX11_does_168 (by decide) ?_
  refine z_icmp_ne (tgt := 180) dX11_does_170 (by decide) (fun _ => ?_) (fun c_ => absurd c_ (by decide +kernel))
  refine z_iload_n dX11_does_180 rfl rfl ?_
  refine z_bipush (v := nI 14) dX11_does_181 (by decide) ?_
  refine z_icmp_ne (tgt := 206) dX11_does_183 (by decide) (fun c_ => absurd (by decide +kernel) c_) (fun _ => ?_)
  refine z_aload_n dX11_does_186 rfl rfl ?_
  refine z_cV1 dX11_does_187 ml_X11_174 (sp_rpop he he8) rfl ⟨by decide, rfl⟩ rfl rfl (Nat.le_of_ble_eq_true rfl) ?_
  refine z_if_eq (tgt := 202) dX11_does_190 (by decide) (fun c190 => ?_) (fun c190 => ?_)
  · refine z_iload_n dX11_does_202 rfl rfl ?_
    refine z_iconst (v := 1) dX11_does_203 (by decide) ?_
    refine z_iadd dX11_does_204 (nI_1 _) ?_
    exact z_iret dX11_does_205 rfl (by simp [c190, rpo, z_up]) rfl
  · refine z_aload_n dX11_does_193 rfl rfl ?_
    refine z_getR dX11_does_194 fl_X11_13 rfl rfl rfl ?_
    refine z_iload_n dX11_does_197 rfl rfl ?_
    refine z_iald dX11_does_198 rfl rfl (by omega) rfl ?_
    refine z_goto (tgt := 205) dX11_does_199 (by decide) ?_
    exact z_iret dX11_does_205 rfl (by simp [c190, rpo, z_up]) rfl
set_option maxRecDepth 100000 in
set_option maxHeartbeats 4000000 in
theorem sp_ds15 {d : Nat} {σ : Nat → Nat → Int32} {τ : Nat → Nat → Int64} {k e : Nat} (hk : k < 40) (hop : σ 93 k = nI 15) : z_MV M_X11_does (d + 1) 0 0 [.ref 92, .int (nI k)] (124, z_r0, σ, τ) (some (.int (-1))) (124, z_r0, σ, τ) := by
  refine z_MV.of pn_X11_does (Nat.le_of_ble_eq_true rfl) (by simp [Value.category]) rfl ?_
  show z_V _ _ _ _ _ _ _ _ _ [_, _, _, _, _] _ _
  refine z_aload_n dX11_does_0 rfl rfl ?_
  refine z_getR dX11_does_1 fl_X11_7 rfl rfl rfl ?_
  refine z_iload_n dX11_does_4 rfl rfl ?_
  refine z_iald dX11_does_5 rfl rfl (by omega) hop ?_
  refine z_istore_n dX11_does_6 rfl (by decide) ?_
  show z_V _ _ _ _ _ _ _ _ _ [_, _, _, _, _] _ _
  refine z_iload_n dX11_does_7 rfl rfl ?_
  refine z_if_ne (tgt := 21) dX11_does_8 (by decide) (fun _ => ?_) (fun c_ => absurd c_ (by decide +kernel))
  refine z_iload_n dX11_does_21 rfl rfl ?_
  refine z_iconst (v := 1) dX11_does_22 (by decide) ?_
  refine z_icmp_ne (tgt := 41) dX11_does_23 (by decide) (fun _ => ?_) (fun c_ => absurd c_ (by decide +kernel))
  refine z_iload_n dX11_does_41 rfl rfl ?_
  refine z_iconst (v := nI 2) dX11_does_42 (by decide) ?_
  refine z_icmp_ne (tgt := 61) dX11_does_43 (by decide) (fun _ => ?_) (fun c_ => absurd c_ (by decide +kernel))
  refine z_iload_n dX11_does_61 rfl rfl ?_
  refine z_iconst (v := nI 3) dX11_does_62 (by decide) ?_
  refine z_bipush (v := nI 8) dX11_does_63 (by decide) ?_
  refine z_cS1 dX11_does_65 ml_X11_114 (sp_within) rfl rfl (Nat.le_of_ble_eq_true rfl) ?_
  refine z_if_eq (tgt := 93) dX11_does_68 (by decide) (fun _ => ?_) (fun c_ => absurd (by decide +kernel) c_)
  refine z_iload_n dX11_does_93 rfl rfl ?_
  refine z_bipush (v := nI 9) dX11_does_94 (by decide) ?_
  refine z_icmp_ne (tgt := 114) dX11_does_96 (by decide) (fun _ => ?_) (fun c_ => absurd c_ (by decide +kernel))
  refine z_iload_n dX11_does_114 rfl rfl ?_
  refine z_bipush (v := nI 10) dX11_does_115 (by decide) ?_
  refine z_icmp_ne (tgt := 125) dX11_does_117 (by decide) (fun _ => ?_) (fun c_ => absurd c_ (by decide +kernel))
  refine z_iload_n dX11_does_125 rfl rfl ?_
  refine z_bipush (v := nI 11) dX11_does_126 (by decide) ?_
  refine z_icmp_ne (tgt := 153) dX11_does_128 (by decide) (fun _ => ?_) (fun c_ => absurd c_ (by decide +kernel))
  refine z_iload_n dX11_does_153 rfl rfl ?_
  refine z_bipush (v := nI 12) dX11_does_154 (by decide) ?_
  refine z_icmp_ne (tgt := 167) dX11_does_156 (by decide) (fun _ => ?_) (fun c_ => absurd c_ (by decide +kernel))
  refine z_iload_n dX11_does_167 rfl rfl ?_
  refine z_bipush (v := nI 13) dX11_does_168 (by decide) ?_
  refine z_icmp_ne (tgt := 180) dX11_does_170 (by decide) (fun _ => ?_) (fun c_ => absurd c_ (by decide +kernel))
  refine z_iload_n dX11_does_180 rfl rfl ?_
  refine z_bipush (v := nI 14) dX11_does_181 (by decide) ?_
  refine z_icmp_ne (tgt := 206) dX11_does_183 (by decide) (fun _ => ?_) (fun c_ => absurd c_ (by decide +kernel))
  refine z_iload_n dX11_does_206 rfl rfl ?_
  refine z_bipush (v := nI 15) dX11_does_207 (by decide) ?_
  refine z_icmp_ne (tgt := 216) dX11_does_209 (by decide) (fun c_ => absurd (by decide +kernel) c_) (fun _ => ?_)
  refine z_iconst (v := (-1)) dX11_does_212 (by decide) ?_
  refine z_goto (tgt := 219) dX11_does_213 (by decide) ?_
  exact z_iret dX11_does_219 rfl rfl rfl
def vtB (σ : Nat → Nat → Int32) (k w a b : Int32) (j : Nat) : Bool := decide (σ 113 j = k) && decide (σ 114 j = w) && decide (σ 115 j = a) && decide (σ 116 j = b)
theorem vtB_iff {σ : Nat → Nat → Int32} {k w a b : Int32} {j : Nat} : vtB σ k w a b j = true ↔ (σ 113 j = k ∧ σ 114 j = w ∧ σ 115 j = a ∧ σ 116 j = b) := by simp [vtB, and_assoc]
def vlI (σ : Nat → Nat → Int32) (n : Nat) (k w a b : Int32) : Nat := fnd (vtB σ k w a b) n
def vlN (σ : Nat → Nat → Int32) (n : Nat) (k w a b : Int32) : Nat → Nat → Int32 := z_up (z_up (z_up (z_up (z_up (z_up (z_up (z_up σ 113 n k) 114 n w) 115 n a) 116 n b) 117 n 0) 118 n 0) 119 n 0) 92 35 (nI (n + 1))
def vlS (σ : Nat → Nat → Int32) (n : Nat) (k w a b : Int32) : Nat → Nat → Int32 := if vlI σ n k w a b < n then σ else vlN σ n k w a b
set_option maxRecDepth 100000 in
set_option maxHeartbeats 4000000 in
theorem valueOf_old_loop {d : Nat} {σ : Nat → Nat → Int32} {τ : Nat → Nat → Int64} {n : Nat} {k w a b : Int32} (hn : σ 92 35 = nI n) {v0 : Nat} (h40 : n ≤ 40) (hv0 : v0 < n) (hm : σ 113 v0 = k ∧ σ 114 v0 = w ∧ σ 115 v0 = a ∧ σ 116 v0 = b) (hno : ∀ j, j < v0 → ¬ (σ 113 j = k ∧ σ 114 j = w ∧ σ 115 j = a ∧ σ 116 j = b)) : ∀ (m v : Nat), v ≤ v0 → v0 - v < m → z_V M_X11_valueOf d 0 0 0 0 (some (.int (nI v0))) (124, z_r0, σ, τ) 3 [some (.ref 92), some (.int k), some (.int w), some (.int a), some (.int b), some (.int (nI v))] [] (124, z_r0, σ, τ) := by
  intro m
  induction m with
  | zero => intro v _ h; omega
  | succ m ih =>
    intro v hv1 hv2
    refine z_iload dX11_valueOf_3 rfl ?_
    refine z_aload_n dX11_valueOf_5 rfl rfl ?_
    refine z_getI dX11_valueOf_6 fl_X11_209 rfl rfl (show _ = nI n by simp [z_up, hn]) ?_
    refine z_icmp_ge (tgt := 66) dX11_valueOf_9 (by decide) (fun c_ => absurd c_ (nI_ge (show v < n by omega) (by omega))) (fun _ => ?_)
    refine z_aload_n dX11_valueOf_12 rfl rfl ?_
    refine z_getR dX11_valueOf_13 fl_X11_81 rfl rfl rfl ?_
    refine z_iload dX11_valueOf_16 rfl ?_
    refine z_iald dX11_valueOf_18 rfl rfl (by omega) rfl ?_
    refine z_iload_n dX11_valueOf_19 rfl rfl ?_
    refine z_icmp_ne (tgt := 60) dX11_valueOf_20 (by decide) (fun c20 => ?_) (fun c20 => ?_)
    · refine z_iinc dX11_valueOf_60 rfl (nI_i _) (by decide) ?_
      show z_V _ _ _ _ _ _ _ _ _ [_, _, _, _, _, _] _ _
      refine z_goto (tgt := 3) dX11_valueOf_63 (by decide) ?_
      have hne : v ≠ v0 := by
        intro q
        subst q
        obtain ⟨m1, m2, m3, m4⟩ := hm
        first | exact c20 m1 | exact c31 m2 | exact c42 m3 | exact c54 m4
      exact ih (v + 1) (by omega) (by omega)
    · refine z_aload_n dX11_valueOf_23 rfl rfl ?_
      refine z_getR dX11_valueOf_24 fl_X11_84 rfl rfl rfl ?_
      refine z_iload dX11_valueOf_27 rfl ?_
      refine z_iald dX11_valueOf_29 rfl rfl (by omega) rfl ?_
      refine z_iload_n dX11_valueOf_30 rfl rfl ?_
      refine z_icmp_ne (tgt := 60) dX11_valueOf_31 (by decide) (fun c31 => ?_) (fun c31 => ?_)
      · refine z_iinc dX11_valueOf_60 rfl (nI_i _) (by decide) ?_
        show z_V _ _ _ _ _ _ _ _ _ [_, _, _, _, _, _] _ _
        refine z_goto (tgt := 3) dX11_valueOf_63 (by decide) ?_
        have hne : v ≠ v0 := by
          intro q
          subst q
          obtain ⟨m1, m2, m3, m4⟩ := hm
          first | exact c20 m1 | exact c31 m2 | exact c42 m3 | exact c54 m4
        exact ih (v + 1) (by omega) (by omega)
      · refine z_aload_n dX11_valueOf_34 rfl rfl ?_
        refine z_getR dX11_valueOf_35 fl_X11_87 rfl rfl rfl ?_
        refine z_iload dX11_valueOf_38 rfl ?_
        refine z_iald dX11_valueOf_40 rfl rfl (by omega) rfl ?_
        refine z_iload_n dX11_valueOf_41 rfl rfl ?_
        refine z_icmp_ne (tgt := 60) dX11_valueOf_42 (by decide) (fun c42 => ?_) (fun c42 => ?_)
        · refine z_iinc dX11_valueOf_60 rfl (nI_i _) (by decide) ?_
          show z_V _ _ _ _ _ _ _ _ _ [_, _, _, _, _, _] _ _
          refine z_goto (tgt := 3) dX11_valueOf_63 (by decide) ?_
          have hne : v ≠ v0 := by
            intro q
            subst q
            obtain ⟨m1, m2, m3, m4⟩ := hm
            first | exact c20 m1 | exact c31 m2 | exact c42 m3 | exact c54 m4
          exact ih (v + 1) (by omega) (by omega)
        · refine z_aload_n dX11_valueOf_45 rfl rfl ?_
          refine z_getR dX11_valueOf_46 fl_X11_90 rfl rfl rfl ?_
          refine z_iload dX11_valueOf_49 rfl ?_
          refine z_iald dX11_valueOf_51 rfl rfl (by omega) rfl ?_
          refine z_iload dX11_valueOf_52 rfl ?_
          refine z_icmp_ne (tgt := 60) dX11_valueOf_54 (by decide) (fun c54 => ?_) (fun c54 => ?_)
          · refine z_iinc dX11_valueOf_60 rfl (nI_i _) (by decide) ?_
            show z_V _ _ _ _ _ _ _ _ _ [_, _, _, _, _, _] _ _
            refine z_goto (tgt := 3) dX11_valueOf_63 (by decide) ?_
            have hne : v ≠ v0 := by
              intro q
              subst q
              obtain ⟨m1, m2, m3, m4⟩ := hm
              first | exact c20 m1 | exact c31 m2 | exact c42 m3 | exact c54 m4
            exact ih (v + 1) (by omega) (by omega)
          · have hv : v = v0 := by
              rcases Nat.lt_or_ge v v0 with q | q
              · exact absurd ⟨c20, c31, c42, c54⟩ (hno v q)
              · omega
            subst hv
            refine z_iload dX11_valueOf_57 rfl ?_
            exact z_iret dX11_valueOf_59 rfl rfl rfl
set_option maxRecDepth 100000 in
set_option maxHeartbeats 4000000 in
theorem sp_valueOf_old {d : Nat} {σ : Nat → Nat → Int32} {τ : Nat → Nat → Int64} {n : Nat} {k w a b : Int32} (hn : σ 92 35 = nI n) {v0 : Nat} (h40 : n ≤ 40) (hv0 : v0 < n) (hm : σ 113 v0 = k ∧ σ 114 v0 = w ∧ σ 115 v0 = a ∧ σ 116 v0 = b) (hno : ∀ j, j < v0 → ¬ (σ 113 j = k ∧ σ 114 j = w ∧ σ 115 j = a ∧ σ 116 j = b)) : z_MV M_X11_valueOf d 0 0 [.ref 92, .int k, .int w, .int a, .int b] (124, z_r0, σ, τ) (some (.int (nI v0))) (124, z_r0, σ, τ) := by
  refine z_MV.of pn_X11_valueOf (Nat.le_of_ble_eq_true rfl) (by simp [Value.category]) rfl ?_
  show z_V _ _ _ _ _ _ _ _ _ [_, _, _, _, _, _] _ _
  refine z_iconst (v := 0) dX11_valueOf_0 (by decide) ?_
  refine z_istore dX11_valueOf_1 (by decide) ?_
  show z_V _ _ _ _ _ _ _ _ _ [_, _, _, _, _, _] _ _
  exact valueOf_old_loop hn h40 hv0 hm hno (v0 + 1) 0 (Nat.zero_le _) (by omega)
set_option maxRecDepth 100000 in
set_option maxHeartbeats 4000000 in
theorem valueOf_new_loop {d : Nat} {σ : Nat → Nat → Int32} {τ : Nat → Nat → Int64} {n : Nat} {k w a b : Int32} (hn : σ 92 35 = nI n) (h40 : n < 40) (hno : ∀ j, j < n → ¬ (σ 113 j = k ∧ σ 114 j = w ∧ σ 115 j = a ∧ σ 116 j = b)) : ∀ (m v : Nat), v ≤ n → n - v < m → z_V M_X11_valueOf d 0 0 0 0 (some (.int (nI n))) (124, z_r0, vlN σ n k w a b, τ) 3 [some (.ref 92), some (.int k), some (.int w), some (.int a), some (.int b), some (.int (nI v))] [] (124, z_r0, σ, τ) := by
  intro m
  induction m with
  | zero => intro v _ h; omega
  | succ m ih =>
    intro v hv1 hv2
    refine z_iload dX11_valueOf_3 rfl ?_
    refine z_aload_n dX11_valueOf_5 rfl rfl ?_
    refine z_getI dX11_valueOf_6 fl_X11_209 rfl rfl (show _ = nI n by simp [z_up, hn]) ?_
    refine z_icmp_ge (tgt := 66) dX11_valueOf_9 (by decide) (fun c9 => ?_) (fun c9 => ?_)
    · have e0 : n = v := by
        rcases Nat.lt_or_ge v n with q | q
        · exact absurd c9 (nI_ge q (by omega))
        · omega
      subst e0
      refine z_aload_n dX11_valueOf_66 rfl rfl ?_
      refine z_getR dX11_valueOf_67 fl_X11_81 rfl rfl rfl ?_
      refine z_aload_n dX11_valueOf_70 rfl rfl ?_
      refine z_getI dX11_valueOf_71 fl_X11_209 rfl rfl (show _ = nI n by simp [z_up, hn]) ?_
      refine z_iload_n dX11_valueOf_74 rfl rfl ?_
      refine z_iast dX11_valueOf_75 rfl rfl (by omega) ?_
      refine z_aload_n dX11_valueOf_76 rfl rfl ?_
      refine z_getR dX11_valueOf_77 fl_X11_84 rfl rfl rfl ?_
      refine z_aload_n dX11_valueOf_80 rfl rfl ?_
      refine z_getI dX11_valueOf_81 fl_X11_209 rfl rfl (show _ = nI n by simp [z_up, hn]) ?_
      refine z_iload_n dX11_valueOf_84 rfl rfl ?_
      refine z_iast dX11_valueOf_85 rfl rfl (by omega) ?_
      refine z_aload_n dX11_valueOf_86 rfl rfl ?_
      refine z_getR dX11_valueOf_87 fl_X11_87 rfl rfl rfl ?_
      refine z_aload_n dX11_valueOf_90 rfl rfl ?_
      refine z_getI dX11_valueOf_91 fl_X11_209 rfl rfl (show _ = nI n by simp [z_up, hn]) ?_
      refine z_iload_n dX11_valueOf_94 rfl rfl ?_
      refine z_iast dX11_valueOf_95 rfl rfl (by omega) ?_
      refine z_aload_n dX11_valueOf_96 rfl rfl ?_
      refine z_getR dX11_valueOf_97 fl_X11_90 rfl rfl rfl ?_
      refine z_aload_n dX11_valueOf_100 rfl rfl ?_
      refine z_getI dX11_valueOf_101 fl_X11_209 rfl rfl (show _ = nI n by simp [z_up, hn]) ?_
      refine z_iload dX11_valueOf_104 rfl ?_
      refine z_iast dX11_valueOf_106 rfl rfl (by omega) ?_
      refine z_aload_n dX11_valueOf_107 rfl rfl ?_
      refine z_getR dX11_valueOf_108 fl_X11_93 rfl rfl rfl ?_
      refine z_aload_n dX11_valueOf_111 rfl rfl ?_
      refine z_getI dX11_valueOf_112 fl_X11_209 rfl rfl (show _ = nI n by simp [z_up, hn]) ?_
      refine z_iconst (v := 0) dX11_valueOf_115 (by decide) ?_
      refine z_zast dX11_valueOf_116 rfl rfl (by omega) (by first | exact Or.inl rfl | exact Or.inr rfl) ?_
      refine z_aload_n dX11_valueOf_117 rfl rfl ?_
      refine z_getR dX11_valueOf_118 fl_X11_96 rfl rfl rfl ?_
      refine z_aload_n dX11_valueOf_121 rfl rfl ?_
      refine z_getI dX11_valueOf_122 fl_X11_209 rfl rfl (show _ = nI n by simp [z_up, hn]) ?_
      refine z_iconst (v := 0) dX11_valueOf_125 (by decide) ?_
      refine z_zast dX11_valueOf_126 rfl rfl (by omega) (by first | exact Or.inl rfl | exact Or.inr rfl) ?_
      refine z_aload_n dX11_valueOf_127 rfl rfl ?_
      refine z_getR dX11_valueOf_128 fl_X11_99 rfl rfl rfl ?_
      refine z_aload_n dX11_valueOf_131 rfl rfl ?_
      refine z_getI dX11_valueOf_132 fl_X11_209 rfl rfl (show _ = nI n by simp [z_up, hn]) ?_
      refine z_iconst (v := 0) dX11_valueOf_135 (by decide) ?_
      refine z_iast dX11_valueOf_136 rfl rfl (by omega) ?_
      refine z_aload_n dX11_valueOf_137 rfl rfl ?_
      refine z_dup dX11_valueOf_138 rfl ?_
      refine z_getI dX11_valueOf_139 fl_X11_209 rfl rfl (show _ = nI n by simp [z_up, hn]) ?_
      refine z_iconst (v := 1) dX11_valueOf_142 (by decide) ?_
      refine z_iadd dX11_valueOf_143 (nI_1 _) ?_
      refine z_putI dX11_valueOf_144 fl_X11_209 rfl rfl (Or.inl rfl) rfl ?_
      refine z_aload_n dX11_valueOf_147 rfl rfl ?_
      refine z_getI dX11_valueOf_148 fl_X11_209 rfl rfl (show _ = nI (n + 1) by simp [z_up]) ?_
      refine z_iconst (v := 1) dX11_valueOf_151 (by decide) ?_
      refine z_isub dX11_valueOf_152 (nI_pred _) ?_
      exact z_iret dX11_valueOf_153 rfl rfl rfl
    · have hlt : v < n := by
        rcases Nat.lt_or_ge v n with q | q
        · exact q
        · exact absurd (nI_le q (by omega)) c9
      refine z_aload_n dX11_valueOf_12 rfl rfl ?_
      refine z_getR dX11_valueOf_13 fl_X11_81 rfl rfl rfl ?_
      refine z_iload dX11_valueOf_16 rfl ?_
      refine z_iald dX11_valueOf_18 rfl rfl (by omega) rfl ?_
      refine z_iload_n dX11_valueOf_19 rfl rfl ?_
      refine z_icmp_ne (tgt := 60) dX11_valueOf_20 (by decide) (fun c20 => ?_) (fun c20 => ?_)
      · refine z_iinc dX11_valueOf_60 rfl (nI_i _) (by decide) ?_
        show z_V _ _ _ _ _ _ _ _ _ [_, _, _, _, _, _] _ _
        refine z_goto (tgt := 3) dX11_valueOf_63 (by decide) ?_
        exact ih (v + 1) (by omega) (by omega)
      · refine z_aload_n dX11_valueOf_23 rfl rfl ?_
        refine z_getR dX11_valueOf_24 fl_X11_84 rfl rfl rfl ?_
        refine z_iload dX11_valueOf_27 rfl ?_
        refine z_iald dX11_valueOf_29 rfl rfl (by omega) rfl ?_
        refine z_iload_n dX11_valueOf_30 rfl rfl ?_
        refine z_icmp_ne (tgt := 60) dX11_valueOf_31 (by decide) (fun c31 => ?_) (fun c31 => ?_)
        · refine z_iinc dX11_valueOf_60 rfl (nI_i _) (by decide) ?_
          show z_V _ _ _ _ _ _ _ _ _ [_, _, _, _, _, _] _ _
          refine z_goto (tgt := 3) dX11_valueOf_63 (by decide) ?_
          exact ih (v + 1) (by omega) (by omega)
        · refine z_aload_n dX11_valueOf_34 rfl rfl ?_
          refine z_getR dX11_valueOf_35 fl_X11_87 rfl rfl rfl ?_
          refine z_iload dX11_valueOf_38 rfl ?_
          refine z_iald dX11_valueOf_40 rfl rfl (by omega) rfl ?_
          refine z_iload_n dX11_valueOf_41 rfl rfl ?_
          refine z_icmp_ne (tgt := 60) dX11_valueOf_42 (by decide) (fun c42 => ?_) (fun c42 => ?_)
          · refine z_iinc dX11_valueOf_60 rfl (nI_i _) (by decide) ?_
            show z_V _ _ _ _ _ _ _ _ _ [_, _, _, _, _, _] _ _
            refine z_goto (tgt := 3) dX11_valueOf_63 (by decide) ?_
            exact ih (v + 1) (by omega) (by omega)
          · refine z_aload_n dX11_valueOf_45 rfl rfl ?_
            refine z_getR dX11_valueOf_46 fl_X11_90 rfl rfl rfl ?_
            refine z_iload dX11_valueOf_49 rfl ?_
            refine z_iald dX11_valueOf_51 rfl rfl (by omega) rfl ?_
            refine z_iload dX11_valueOf_52 rfl ?_
            refine z_icmp_ne (tgt := 60) dX11_valueOf_54 (by decide) (fun c54 => ?_) (fun c54 => ?_)
            · refine z_iinc dX11_valueOf_60 rfl (nI_i _) (by decide) ?_
              show z_V _ _ _ _ _ _ _ _ _ [_, _, _, _, _, _] _ _
              refine z_goto (tgt := 3) dX11_valueOf_63 (by decide) ?_
              exact ih (v + 1) (by omega) (by omega)
            · exact absurd ⟨c20, c31, c42, c54⟩ (hno v hlt)
set_option maxRecDepth 100000 in
set_option maxHeartbeats 4000000 in
theorem sp_valueOf_new {d : Nat} {σ : Nat → Nat → Int32} {τ : Nat → Nat → Int64} {n : Nat} {k w a b : Int32} (hn : σ 92 35 = nI n) (h40 : n < 40) (hno : ∀ j, j < n → ¬ (σ 113 j = k ∧ σ 114 j = w ∧ σ 115 j = a ∧ σ 116 j = b)) : z_MV M_X11_valueOf d 0 0 [.ref 92, .int k, .int w, .int a, .int b] (124, z_r0, σ, τ) (some (.int (nI n))) (124, z_r0, vlN σ n k w a b, τ) := by
  refine z_MV.of pn_X11_valueOf (Nat.le_of_ble_eq_true rfl) (by simp [Value.category]) rfl ?_
  show z_V _ _ _ _ _ _ _ _ _ [_, _, _, _, _, _] _ _
  refine z_iconst (v := 0) dX11_valueOf_0 (by decide) ?_
  refine z_istore dX11_valueOf_1 (by decide) ?_
  show z_V _ _ _ _ _ _ _ _ _ [_, _, _, _, _, _] _ _
  exact valueOf_new_loop hn h40 hno (n + 1) 0 (Nat.zero_le _) (by omega)
theorem sp_valueOf {d : Nat} {σ : Nat → Nat → Int32} {τ : Nat → Nat → Int64} {n : Nat} {k w a b : Int32} (hn : σ 92 35 = nI n) (h40 : n < 40) : z_MV M_X11_valueOf d 0 0 [.ref 92, .int k, .int w, .int a, .int b] (124, z_r0, σ, τ) (some (.int (nI (vlI σ n k w a b)))) (124, z_r0, vlS σ n k w a b, τ) := by
  have hs := fnd_spec (vtB σ k w a b) n
  have hle := fnd_le (vtB σ k w a b) n
  unfold vlS
  split
  next h => exact sp_valueOf_old hn (by omega) h (vtB_iff.mp (hs.1 h)) (fun j hj q => absurd (hs.2 j hj) (by rw [vtB_iff.mpr q]; decide))
  next h =>
    have he : vlI σ n k w a b = n := by unfold vlI at *; omega
    rw [he]
    exact sp_valueOf_new hn h40 (fun j hj q => absurd (hs.2 j (by unfold vlI at he; omega)) (by rw [vtB_iff.mpr q]; decide))
def cal (σ : Nat → Nat → Int32) (n op a b : Nat) : Nat × (Nat → Nat → Int32) :=
  if σ 113 a = 0 ∧ σ 113 b = 0 then (vlI σ n 0 (wk op (σ 114 a) (σ 114 b)) 0 0, vlS σ n 0 (wk op (σ 114 a) (σ 114 b)) 0 0)
  else (vlI σ n (nI 2) (nI op) (nI a) (nI b), vlS σ n (nI 2) (nI op) (nI a) (nI b))
set_option maxRecDepth 100000 in
set_option maxHeartbeats 4000000 in
theorem sp_calculated {d : Nat} {σ : Nat → Nat → Int32} {τ : Nat → Nat → Int64} {n op a b : Nat} (hn : σ 92 35 = nI n) (h40 : n < 40) (h3 : 3 ≤ op) (h8 : op ≤ 8) (ha : a < 40) (hb : b < 40) : z_MV M_X11_calculated (d + 1) 0 0 [.ref 92, .int (nI op), .int (nI a), .int (nI b)] (124, z_r0, σ, τ) (some (.int (nI (cal σ n op a b).1))) (124, z_r0, (cal σ n op a b).2, τ) := by
  refine z_MV.of pn_X11_calculated (Nat.le_of_ble_eq_true rfl) (by simp [Value.category]) rfl ?_
  show z_V _ _ _ _ _ _ _ _ _ [_, _, _, _] _ _
  refine z_aload_n dX11_calculated_0 rfl rfl ?_
  refine z_getR dX11_calculated_1 fl_X11_81 rfl rfl rfl ?_
  refine z_iload_n dX11_calculated_4 rfl rfl ?_
  refine z_iald dX11_calculated_5 rfl rfl (by omega) rfl ?_
  refine z_if_ne (tgt := 44) dX11_calculated_6 (by decide) (fun c6 => ?_) (fun c6 => ?_)
  · refine z_aload_n dX11_calculated_44 rfl rfl ?_
    refine z_iconst (v := nI 2) dX11_calculated_45 (by decide) ?_
    refine z_iload_n dX11_calculated_46 rfl rfl ?_
    refine z_iload_n dX11_calculated_47 rfl rfl ?_
    refine z_iload_n dX11_calculated_48 rfl rfl ?_
    refine z_cV1 dX11_calculated_49 ml_X11_212 (sp_valueOf hn h40) rfl ⟨by decide, rfl⟩ rfl rfl (Nat.le_of_ble_eq_true rfl) ?_
    exact z_iret dX11_calculated_52 rfl (by simp [cal, c6]) (by simp [cal, c6])
  · refine z_aload_n dX11_calculated_9 rfl rfl ?_
    refine z_getR dX11_calculated_10 fl_X11_81 rfl rfl rfl ?_
    refine z_iload_n dX11_calculated_13 rfl rfl ?_
    refine z_iald dX11_calculated_14 rfl rfl (by omega) rfl ?_
    refine z_if_ne (tgt := 44) dX11_calculated_15 (by decide) (fun c15 => ?_) (fun c15 => ?_)
    · refine z_aload_n dX11_calculated_44 rfl rfl ?_
      refine z_iconst (v := nI 2) dX11_calculated_45 (by decide) ?_
      refine z_iload_n dX11_calculated_46 rfl rfl ?_
      refine z_iload_n dX11_calculated_47 rfl rfl ?_
      refine z_iload_n dX11_calculated_48 rfl rfl ?_
      refine z_cV1 dX11_calculated_49 ml_X11_212 (sp_valueOf hn h40) rfl ⟨by decide, rfl⟩ rfl rfl (Nat.le_of_ble_eq_true rfl) ?_
      exact z_iret dX11_calculated_52 rfl (by simp [cal, c6, c15]) (by simp [cal, c6, c15])
    · refine z_aload_n dX11_calculated_18 rfl rfl ?_
      refine z_iconst (v := 0) dX11_calculated_19 (by decide) ?_
      refine z_iload_n dX11_calculated_20 rfl rfl ?_
      refine z_aload_n dX11_calculated_21 rfl rfl ?_
      refine z_getR dX11_calculated_22 fl_X11_84 rfl rfl rfl ?_
      refine z_iload_n dX11_calculated_25 rfl rfl ?_
      refine z_iald dX11_calculated_26 rfl rfl (by omega) rfl ?_
      refine z_aload_n dX11_calculated_27 rfl rfl ?_
      refine z_getR dX11_calculated_28 fl_X11_84 rfl rfl rfl ?_
      refine z_iload_n dX11_calculated_31 rfl rfl ?_
      refine z_iald dX11_calculated_32 rfl rfl (by omega) rfl ?_
      refine z_cS1 dX11_calculated_33 ml_X11_178 (sp_worked h3 h8) rfl rfl (Nat.le_of_ble_eq_true rfl) ?_
      refine z_iconst (v := 0) dX11_calculated_36 (by decide) ?_
      refine z_iconst (v := 0) dX11_calculated_37 (by decide) ?_
      refine z_cV1 dX11_calculated_38 ml_X11_212 (sp_valueOf hn h40) rfl ⟨by decide, rfl⟩ rfl rfl (Nat.le_of_ble_eq_true rfl) ?_
      refine z_goto (tgt := 52) dX11_calculated_41 (by decide) ?_
      exact z_iret dX11_calculated_52 rfl (by simp [cal, c6, c15]) (by simp [cal, c6, c15])
def mkR (σ : Nat → Nat → Int32) (c a : Nat) : Nat → Nat → Nat → Int32
  | 0 => σ
  | i + 1 => z_up (mkR σ c a i) c (tN (σ a i)) 1
theorem mkR_ne (σ : Nat → Nat → Int32) (c a i : Nat) {b : Nat} (h : b ≠ c) : mkR σ c a i b = σ b := by
  induction i with
  | zero => rfl
  | succ i ih => simp only [mkR]; rw [z_up_ne _ _ _ h, ih]
theorem mkR_s (σ : Nat → Nat → Int32) (c a i : Nat) : mkR σ c a (i + 1) = z_up (mkR σ c a i) c (tN (σ a i)) 1 := rfl
def picS (σ : Nat → Nat → Int32) (e : Nat) : Nat → Nat → Int32 := mkR (mkR σ 117 120 6) 117 121 e
set_option maxRecDepth 100000 in
set_option maxHeartbeats 4000000 in
theorem picture_loop2 {d : Nat} {σ : Nat → Nat → Int32} {τ : Nat → Nat → Int64} {e : Nat} (he : σ 92 44 = nI e) (he8 : e ≤ 8) (hl : ∀ l, l < 6 → ∃ q, q < 40 ∧ σ 120 l = nI q) (hs : ∀ s, s < e → ∃ q, q < 40 ∧ σ 121 s = nI q) : ∀ (m v : Nat), v ≤ e → e - v < m → z_V M_X11_picture d 0 0 0 0 none (124, z_r0, picS σ e, τ) 28 [some (.ref 92), some (.int (nI v))] [] (124, z_r0, mkR (mkR σ 117 120 6) 117 121 v, τ) := by
  intro m
  induction m with
  | zero => intro v _ h; omega
  | succ m ih =>
    intro v hv1 hv2
    refine z_iload_n dX11_picture_28 rfl rfl ?_
    refine z_aload_n dX11_picture_29 rfl rfl ?_
    refine z_getI dX11_picture_30 fl_X11_216 rfl rfl (show _ = nI e by rw [mkR_ne _ _ _ _ (by decide), mkR_ne _ _ _ _ (by decide)]; exact he) ?_
    refine z_icmp_ge (tgt := 54) dX11_picture_33 (by decide) (fun c33 => ?_) (fun c33 => ?_)
    · have e0 : e = v := by
        rcases Nat.lt_or_ge v e with q | q
        · exact absurd c33 (nI_ge q (by omega))
        · omega
      subst e0
      exact z_vret dX11_picture_54 rfl rfl rfl
    · have hlt : v < e := by
        rcases Nat.lt_or_ge v e with q | q
        · exact q
        · exact absurd (nI_le q (by omega)) c33
      refine z_aload_n dX11_picture_36 rfl rfl ?_
      refine z_getR dX11_picture_37 fl_X11_93 rfl rfl rfl ?_
      refine z_aload_n dX11_picture_40 rfl rfl ?_
      refine z_getR dX11_picture_41 fl_X11_105 rfl rfl rfl ?_
      refine z_iload_n dX11_picture_44 rfl rfl ?_
      obtain ⟨q, hq, hpq⟩ := hs v hlt
      refine z_iald dX11_picture_45 rfl rfl (by omega) (show _ = nI q by rw [mkR_ne _ _ _ _ (by decide), mkR_ne _ _ _ _ (by decide)]; exact hpq) ?_
      refine z_iconst (v := 1) dX11_picture_46 (by decide) ?_
      refine z_zast dX11_picture_47 rfl rfl (by omega) (by first | exact Or.inl rfl | exact Or.inr rfl) ?_
      refine z_iinc dX11_picture_48 rfl (nI_i _) (by decide) ?_
      show z_V _ _ _ _ _ _ _ _ _ [_, _] _ _
      refine z_goto (tgt := 28) dX11_picture_51 (by decide) ?_
      refine z_Vx (σ' := mkR (mkR σ 117 120 6) 117 121 (v + 1)) ?_ (ih (v + 1) (by omega) (by omega))
      rw [mkR_s, show mkR σ 117 120 6 121 v = nI q by rw [mkR_ne _ _ _ _ (by decide)]; exact hpq, tN_nI (by omega)]
set_option maxRecDepth 100000 in
set_option maxHeartbeats 4000000 in
theorem picture_loop1 {d : Nat} {σ : Nat → Nat → Int32} {τ : Nat → Nat → Int64} {e : Nat} (he : σ 92 44 = nI e) (he8 : e ≤ 8) (hl : ∀ l, l < 6 → ∃ q, q < 40 ∧ σ 120 l = nI q) (hs : ∀ s, s < e → ∃ q, q < 40 ∧ σ 121 s = nI q) : ∀ (m v : Nat), v ≤ 6 → 6 - v < m → z_V M_X11_picture d 0 0 0 0 none (124, z_r0, picS σ e, τ) 2 [some (.ref 92), some (.int (nI v))] [] (124, z_r0, mkR σ 117 120 v, τ) := by
  intro m
  induction m with
  | zero => intro v _ h; omega
  | succ m ih =>
    intro v hv1 hv2
    refine z_iload_n dX11_picture_2 rfl rfl ?_
    refine z_bipush (v := nI 6) dX11_picture_3 (by decide) ?_
    refine z_icmp_ge (tgt := 26) dX11_picture_5 (by decide) (fun c5 => ?_) (fun c5 => ?_)
    · have e0 : 6 = v := by
        rcases Nat.lt_or_ge v 6 with q | q
        · exact absurd c5 (nI_ge q (by omega))
        · omega
      subst e0
      refine z_iconst (v := 0) dX11_picture_26 (by decide) ?_
      refine z_istore_n dX11_picture_27 rfl (by decide) ?_
      show z_V _ _ _ _ _ _ _ _ _ [_, _] _ _
      exact picture_loop2 he he8 hl hs (e + 1) 0 (Nat.zero_le _) (by omega)
    · have hlt : v < 6 := by
        rcases Nat.lt_or_ge v 6 with q | q
        · exact q
        · exact absurd (nI_le q (by omega)) c5
      refine z_aload_n dX11_picture_8 rfl rfl ?_
      refine z_getR dX11_picture_9 fl_X11_93 rfl rfl rfl ?_
      refine z_aload_n dX11_picture_12 rfl rfl ?_
      refine z_getR dX11_picture_13 fl_X11_102 rfl rfl rfl ?_
      refine z_iload_n dX11_picture_16 rfl rfl ?_
      obtain ⟨q, hq, hpq⟩ := hl v hlt
      refine z_iald dX11_picture_17 rfl rfl (by omega) (show _ = nI q by rw [mkR_ne _ _ _ _ (by decide)]; exact hpq) ?_
      refine z_iconst (v := 1) dX11_picture_18 (by decide) ?_
      refine z_zast dX11_picture_19 rfl rfl (by omega) (by first | exact Or.inl rfl | exact Or.inr rfl) ?_
      refine z_iinc dX11_picture_20 rfl (nI_i _) (by decide) ?_
      show z_V _ _ _ _ _ _ _ _ _ [_, _] _ _
      refine z_goto (tgt := 2) dX11_picture_23 (by decide) ?_
      refine z_Vx (σ' := mkR σ 117 120 (v + 1)) ?_ (ih (v + 1) (by omega) (by omega))
      rw [mkR_s, hpq, tN_nI (by omega)]
set_option maxRecDepth 100000 in
set_option maxHeartbeats 4000000 in
theorem sp_picture {d : Nat} {σ : Nat → Nat → Int32} {τ : Nat → Nat → Int64} {e : Nat} (he : σ 92 44 = nI e) (he8 : e ≤ 8) (hl : ∀ l, l < 6 → ∃ q, q < 40 ∧ σ 120 l = nI q) (hs : ∀ s, s < e → ∃ q, q < 40 ∧ σ 121 s = nI q) : z_MV M_X11_picture d 0 0 [.ref 92] (124, z_r0, σ, τ) (none) (124, z_r0, picS σ e, τ) := by
  refine z_MV.of pn_X11_picture (Nat.le_of_ble_eq_true rfl) (by simp [Value.category]) rfl ?_
  show z_V _ _ _ _ _ _ _ _ _ [_, _] _ _
  refine z_iconst (v := 0) dX11_picture_0 (by decide) ?_
  refine z_istore_n dX11_picture_1 rfl (by decide) ?_
  show z_V _ _ _ _ _ _ _ _ _ [_, _] _ _
  exact picture_loop1 he he8 hl hs 7 0 (by omega) (by omega)
