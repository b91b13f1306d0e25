/-! PART 43: TraceTierModel: interpret while recording, turn -/
theorem nI_pos0 {n : Nat} (h : n < 2 ^ 31) : 0 ≤ nI n := nI_pos' h
def riR (σ : Nat → Nat → Int32) (k e : Nat) : Nat → Nat → Int32 := z_up (riN σ k e) 92 7 (dsS σ k).1
theorem riR_15 {σ : Nat → Nat → Int32} {k e : Nat} : riR σ k e 92 15 = σ 92 15 := by
  simp [riR, riN, riT, z_up, dsS_92]
theorem htS_rec {σ : Nat → Nat → Int32} {q : Nat} (h : ¬ σ 92 15 < 0) : htS σ q = σ := if_pos (Or.inr (Or.inr h))
set_option maxRecDepth 100000 in
set_option maxHeartbeats 4000000 in
theorem sp_ri_halt {d : Nat} {σ : Nat → Nat → Int32} {τ : Nat → Nat → Int64} {k : Nat} (ha : σ 92 7 = nI k) (hok : dsOK σ k) (hif : σ 93 k = nI 14 → ∃ e, e < 8 ∧ σ 92 9 = nI (e + 1)) {g p : Nat} (hrp : σ 92 15 = nI p) (hp40 : p < 40) (he16 : σ 92 16 = nI g) (he30 : g < 30) (h15 : σ 93 k = nI 15) (hto : (dsS σ k).1 = -1) : z_MV M_X11_interpret (d + 3) 0 0 [.ref 92] (124, z_r0, σ, τ) (none) (124, z_r0, z_up (rgu (riN σ k g) p) 92 7 (-1), τ) := by
  refine z_MV.of pn_X11_interpret (Nat.le_of_ble_eq_true rfl) (by simp [Value.category]) rfl ?_
  show z_V _ _ _ _ _ _ _ _ _ [_, _, _, _, _] _ _
  have hk40 := hok.1
  refine z_aload_n dX11_interpret_0 rfl rfl ?_
  refine z_getI dX11_interpret_1 fl_X11_19 rfl rfl ha ?_
  refine z_istore_n dX11_interpret_4 rfl (by decide) ?_
  show z_V _ _ _ _ _ _ _ _ _ [_, _, _, _, _] _ _
  refine z_aload_n dX11_interpret_5 rfl rfl ?_
  refine z_getI dX11_interpret_6 fl_X11_38 rfl rfl rfl ?_
  refine z_if_lt (tgt := 16) dX11_interpret_9 (by decide) (fun c_ => absurd c_ (by rw [hrp]; exact nI_pos (by omega))) (fun _ => ?_)
  refine z_iconst (v := 1) dX11_interpret_12 (by decide) ?_
  refine z_goto (tgt := 17) dX11_interpret_13 (by decide) ?_
  refine z_istore_n dX11_interpret_17 rfl (by decide) ?_
  show z_V _ _ _ _ _ _ _ _ _ [_, _, _, _, _] _ _
  refine z_aload_n dX11_interpret_18 rfl rfl ?_
  refine z_getR dX11_interpret_19 fl_X11_7 rfl rfl rfl ?_
  refine z_iload_n dX11_interpret_22 rfl rfl ?_
  refine z_iald dX11_interpret_23 rfl rfl (by omega) rfl ?_
  refine z_bipush (v := nI 13) dX11_interpret_24 (by decide) ?_
  refine z_icmp_eq (tgt := 54) dX11_interpret_26 (by decide) (fun c_ => absurd c_ (by rw [h15]; exact nI_ne (by decide) (by decide) (by decide))) (fun _ => ?_)
  refine z_aload_n dX11_interpret_29 rfl rfl ?_
  refine z_getR dX11_interpret_30 fl_X11_7 rfl rfl rfl ?_
  refine z_iload_n dX11_interpret_33 rfl rfl ?_
  refine z_iald dX11_interpret_34 rfl rfl (by omega) rfl ?_
  refine z_bipush (v := nI 14) dX11_interpret_35 (by decide) ?_
  refine z_icmp_ne (tgt := 58) dX11_interpret_37 (by decide) (fun _ => ?_) (fun c_ => absurd c_ (by rw [h15]; exact nI_ne (by decide) (by decide) (by decide)))
  refine z_iconst (v := 0) dX11_interpret_58 (by decide) ?_
  refine z_istore_n dX11_interpret_59 rfl (by decide) ?_
  show z_V _ _ _ _ _ _ _ _ _ [_, _, _, _, _] _ _
  have htk : tkn σ k = 0 := b2i_f (fun z => by rw [h15] at z; exact z.elim (nI_ne (by decide) (by decide) (by decide)) (fun y => nI_ne (by decide) (by decide) (by decide) y.1))
  refine z_aload_n dX11_interpret_60 rfl rfl ?_
  refine z_iload_n dX11_interpret_61 rfl rfl ?_
  refine z_cV1 dX11_interpret_62 ml_X11_188 (sp_does hok) rfl ⟨by decide, rfl⟩ rfl rfl (Nat.le_of_ble_eq_true rfl) ?_
  rw [hto]
  refine z_istore dX11_interpret_65 (by decide) ?_
  show z_V _ _ _ _ _ _ _ _ _ [_, _, _, _, _] _ _
  refine z_aload_n dX11_interpret_67 rfl rfl ?_
  refine z_dup dX11_interpret_68 rfl ?_
  refine z_getI dX11_interpret_69 fl_X11_148 rfl rfl (show _ = σ 92 31 from dsS_92 (by decide)) ?_
  refine z_iconst (v := 1) dX11_interpret_72 (by decide) ?_
  refine z_iadd dX11_interpret_73 rfl ?_
  refine z_putI dX11_interpret_74 fl_X11_148 rfl rfl (Or.inl rfl) rfl ?_
  refine z_aload_n dX11_interpret_77 rfl rfl ?_
  refine z_iconst (v := (-1)) dX11_interpret_78 (by decide) ?_
  refine z_putI dX11_interpret_79 fl_X11_48 rfl rfl (Or.inl rfl) rfl ?_
  refine z_iload_n dX11_interpret_82 rfl rfl ?_
  refine z_if_eq (tgt := 130) dX11_interpret_83 (by decide) (fun c_ => absurd c_ (by decide +kernel)) (fun _ => ?_)
  refine z_aload_n dX11_interpret_86 rfl rfl ?_
  refine z_getR dX11_interpret_87 fl_X11_41 rfl rfl rfl ?_
  refine z_aload_n dX11_interpret_90 rfl rfl ?_
  refine z_getI dX11_interpret_91 fl_X11_185 rfl rfl (show _ = nI g by simp [z_up, dsS_92, he16]) ?_
  refine z_iload_n dX11_interpret_94 rfl rfl ?_
  refine z_iast dX11_interpret_95 rfl rfl (by omega) ?_
  refine z_aload_n dX11_interpret_96 rfl rfl ?_
  refine z_getR dX11_interpret_97 fl_X11_44 rfl rfl rfl ?_
  refine z_aload_n dX11_interpret_100 rfl rfl ?_
  refine z_getI dX11_interpret_101 fl_X11_185 rfl rfl (show _ = nI g by simp [z_up, dsS_92, he16]) ?_
  refine z_iload_n dX11_interpret_104 rfl rfl ?_
  refine z_zast dX11_interpret_105 rfl rfl (by omega) (by first | exact Or.inl rfl | exact Or.inr rfl) ?_
  refine z_aload_n dX11_interpret_106 rfl rfl ?_
  refine z_dup dX11_interpret_107 rfl ?_
  refine z_getI dX11_interpret_108 fl_X11_185 rfl rfl (show _ = nI g by simp [z_up, dsS_92, he16]) ?_
  refine z_iconst (v := 1) dX11_interpret_111 (by decide) ?_
  refine z_iadd dX11_interpret_112 (nI_1 _) ?_
  refine z_putI dX11_interpret_113 fl_X11_185 rfl rfl (Or.inl rfl) rfl ?_
  refine z_iload dX11_interpret_116 rfl ?_
  refine z_iconst (v := (-1)) dX11_interpret_118 (by decide) ?_
  refine z_icmp_ne (tgt := 130) dX11_interpret_119 (by decide) (fun c_ => absurd (rfl) c_) (fun _ => ?_)
  refine z_aload_n dX11_interpret_122 rfl rfl ?_
  refine z_aload_n dX11_interpret_123 rfl rfl ?_
  refine z_getI dX11_interpret_124 fl_X11_38 rfl rfl (show _ = nI p by simp [z_up, dsS_92, hrp]) ?_
  refine z_cV0 dX11_interpret_127 ml_X11_191 (sp_rgiveUp hp40) rfl ⟨by decide, rfl⟩ rfl rfl (Nat.le_of_ble_eq_true rfl) ?_
  refine z_aload_n dX11_interpret_130 rfl rfl ?_
  refine z_iload dX11_interpret_131 rfl ?_
  refine z_putI dX11_interpret_133 fl_X11_19 rfl rfl (Or.inl rfl) rfl ?_
  refine z_iload_n dX11_interpret_136 rfl rfl ?_
  refine z_if_eq (tgt := 152) dX11_interpret_137 (by decide) (fun _ => ?_) (fun c_ => absurd (by decide +kernel) c_)
  refine z_iload_n dX11_interpret_152 rfl rfl ?_
  refine z_if_eq (tgt := 176) dX11_interpret_153 (by decide) (fun c_ => absurd c_ (by decide +kernel)) (fun _ => ?_)
  refine z_aload_n dX11_interpret_156 rfl rfl ?_
  refine z_getI dX11_interpret_157 fl_X11_38 rfl rfl (show _ = -1 by simp [rgu, z_up]) ?_
  refine z_if_lt (tgt := 176) dX11_interpret_160 (by decide) (fun _ => ?_) (fun c_ => absurd (by decide +kernel) c_)
  exact z_vret dX11_interpret_176 rfl rfl (by simp [rgu, riN, riT, htk])
set_option maxRecDepth 100000 in
set_option maxHeartbeats 4000000 in
theorem sp_ri_rec {d : Nat} {σ : Nat → Nat → Int32} {τ : Nat → Nat → Int64} {k : Nat} (ha : σ 92 7 = nI k) (hok : dsOK σ k) (hif : σ 93 k = nI 14 → ∃ e, e < 8 ∧ σ 92 9 = nI (e + 1)) {g p : Nat} (hrp : σ 92 15 = nI p) (hp40 : p < 40) (he16 : σ 92 16 = nI g) (he30 : g < 30) {q : Nat} (hq : (dsS σ k).1 = nI q) (hq40 : q < 40) (hqp : q ≠ p) : z_MV M_X11_interpret (d + 3) 0 0 [.ref 92] (124, z_r0, σ, τ) (none) (124, z_r0, riR σ k g, τ) := by
  refine z_MV.of pn_X11_interpret (Nat.le_of_ble_eq_true rfl) (by simp [Value.category]) rfl ?_
  show z_V _ _ _ _ _ _ _ _ _ [_, _, _, _, _] _ _
  have hk40 := hok.1
  refine z_aload_n dX11_interpret_0 rfl rfl ?_
  refine z_getI dX11_interpret_1 fl_X11_19 rfl rfl ha ?_
  refine z_istore_n dX11_interpret_4 rfl (by decide) ?_
  show z_V _ _ _ _ _ _ _ _ _ [_, _, _, _, _] _ _
  refine z_aload_n dX11_interpret_5 rfl rfl ?_
  refine z_getI dX11_interpret_6 fl_X11_38 rfl rfl rfl ?_
  refine z_if_lt (tgt := 16) dX11_interpret_9 (by decide) (fun c_ => absurd c_ (by rw [hrp]; exact nI_pos (by omega))) (fun _ => ?_)
  refine z_iconst (v := 1) dX11_interpret_12 (by decide) ?_
  refine z_goto (tgt := 17) dX11_interpret_13 (by decide) ?_
  refine z_istore_n dX11_interpret_17 rfl (by decide) ?_
  show z_V _ _ _ _ _ _ _ _ _ [_, _, _, _, _] _ _
  refine z_aload_n dX11_interpret_18 rfl rfl ?_
  refine z_getR dX11_interpret_19 fl_X11_7 rfl rfl rfl ?_
  refine z_iload_n dX11_interpret_22 rfl rfl ?_
  refine z_iald dX11_interpret_23 rfl rfl (by omega) rfl ?_
  refine z_bipush (v := nI 13) dX11_interpret_24 (by decide) ?_
  refine z_icmp_eq (tgt := 54) dX11_interpret_26 (by decide) (fun c26 => ?_) (fun c26 => ?_)
  · refine z_iconst (v := 1) dX11_interpret_54 (by decide) ?_
    refine z_goto (tgt := 59) dX11_interpret_55 (by decide) ?_
    refine z_istore_n dX11_interpret_59 rfl (by decide) ?_
    show z_V _ _ _ _ _ _ _ _ _ [_, _, _, _, _] _ _
    have htk : tkn σ k = 1 := b2i_t (Or.inl c26)
    refine z_aload_n dX11_interpret_60 rfl rfl ?_
    refine z_iload_n dX11_interpret_61 rfl rfl ?_
    refine z_cV1 dX11_interpret_62 ml_X11_188 (sp_does hok) rfl ⟨by decide, rfl⟩ rfl rfl (Nat.le_of_ble_eq_true rfl) ?_
    rw [hq]
    refine z_istore dX11_interpret_65 (by decide) ?_
    show z_V _ _ _ _ _ _ _ _ _ [_, _, _, _, _] _ _
    refine z_aload_n dX11_interpret_67 rfl rfl ?_
    refine z_dup dX11_interpret_68 rfl ?_
    refine z_getI dX11_interpret_69 fl_X11_148 rfl rfl (show _ = σ 92 31 from dsS_92 (by decide)) ?_
    refine z_iconst (v := 1) dX11_interpret_72 (by decide) ?_
    refine z_iadd dX11_interpret_73 rfl ?_
    refine z_putI dX11_interpret_74 fl_X11_148 rfl rfl (Or.inl rfl) rfl ?_
    refine z_aload_n dX11_interpret_77 rfl rfl ?_
    refine z_iconst (v := (-1)) dX11_interpret_78 (by decide) ?_
    refine z_putI dX11_interpret_79 fl_X11_48 rfl rfl (Or.inl rfl) rfl ?_
    refine z_iload_n dX11_interpret_82 rfl rfl ?_
    refine z_if_eq (tgt := 130) dX11_interpret_83 (by decide) (fun c_ => absurd c_ (by decide +kernel)) (fun _ => ?_)
    refine z_aload_n dX11_interpret_86 rfl rfl ?_
    refine z_getR dX11_interpret_87 fl_X11_41 rfl rfl rfl ?_
    refine z_aload_n dX11_interpret_90 rfl rfl ?_
    refine z_getI dX11_interpret_91 fl_X11_185 rfl rfl (show _ = nI g by simp [z_up, dsS_92, he16]) ?_
    refine z_iload_n dX11_interpret_94 rfl rfl ?_
    refine z_iast dX11_interpret_95 rfl rfl (by omega) ?_
    refine z_aload_n dX11_interpret_96 rfl rfl ?_
    refine z_getR dX11_interpret_97 fl_X11_44 rfl rfl rfl ?_
    refine z_aload_n dX11_interpret_100 rfl rfl ?_
    refine z_getI dX11_interpret_101 fl_X11_185 rfl rfl (show _ = nI g by simp [z_up, dsS_92, he16]) ?_
    refine z_iload_n dX11_interpret_104 rfl rfl ?_
    refine z_zast dX11_interpret_105 rfl rfl (by omega) (by first | exact Or.inl rfl | exact Or.inr rfl) ?_
    refine z_aload_n dX11_interpret_106 rfl rfl ?_
    refine z_dup dX11_interpret_107 rfl ?_
    refine z_getI dX11_interpret_108 fl_X11_185 rfl rfl (show _ = nI g by simp [z_up, dsS_92, he16]) ?_
    refine z_iconst (v := 1) dX11_interpret_111 (by decide) ?_
    refine z_iadd dX11_interpret_112 (nI_1 _) ?_
    refine z_putI dX11_interpret_113 fl_X11_185 rfl rfl (Or.inl rfl) rfl ?_
    refine z_iload dX11_interpret_116 rfl ?_
    refine z_iconst (v := (-1)) dX11_interpret_118 (by decide) ?_
    refine z_icmp_ne (tgt := 130) dX11_interpret_119 (by decide) (fun _ => ?_) (fun c_ => absurd c_ (nI_nm1 (by omega)))
    refine z_aload_n dX11_interpret_130 rfl rfl ?_
    refine z_iload dX11_interpret_131 rfl ?_
    refine z_putI dX11_interpret_133 fl_X11_19 rfl rfl (Or.inl rfl) rfl ?_
    refine z_iload_n dX11_interpret_136 rfl rfl ?_
    refine z_if_eq (tgt := 152) dX11_interpret_137 (by decide) (fun c_ => absurd c_ (by decide +kernel)) (fun _ => ?_)
    refine z_iload dX11_interpret_140 rfl ?_
    refine z_iload_n dX11_interpret_142 rfl rfl ?_
    refine z_icmp_gt (tgt := 152) dX11_interpret_143 (by decide) (fun c143 => ?_) (fun c143 => ?_)
    · refine z_iload_n dX11_interpret_152 rfl rfl ?_
      refine z_if_eq (tgt := 176) dX11_interpret_153 (by decide) (fun c_ => absurd c_ (by decide +kernel)) (fun _ => ?_)
      refine z_aload_n dX11_interpret_156 rfl rfl ?_
      refine z_getI dX11_interpret_157 fl_X11_38 rfl rfl (show _ = nI p by simp [z_up, dsS_92, hrp]) ?_
      refine z_if_lt (tgt := 176) dX11_interpret_160 (by decide) (fun c_ => absurd c_ (nI_pos (by omega))) (fun _ => ?_)
      refine z_iload dX11_interpret_163 rfl ?_
      refine z_aload_n dX11_interpret_165 rfl rfl ?_
      refine z_getI dX11_interpret_166 fl_X11_38 rfl rfl (show _ = nI p by simp [z_up, dsS_92, hrp]) ?_
      refine z_icmp_ne (tgt := 176) dX11_interpret_169 (by decide) (fun _ => ?_) (fun c_ => absurd c_ (nI_ne (by omega) (by omega) hqp))
      exact z_vret dX11_interpret_176 rfl rfl (by simp [riR, riN, riT, htk, hq])
    · refine z_aload_n dX11_interpret_146 rfl rfl ?_
      refine z_iload dX11_interpret_147 rfl ?_
      refine z_cV0 dX11_interpret_149 ml_X11_194 (sp_hot (p := q) hq40) rfl ⟨by decide, rfl⟩ rfl rfl (Nat.le_of_ble_eq_true rfl) ?_
      refine z_Vx (htS_rec (by simp [z_up, dsS_92, hrp]; exact nI_pos0 (n := p) (by omega))).symm ?_
      refine z_iload_n dX11_interpret_152 rfl rfl ?_
      refine z_if_eq (tgt := 176) dX11_interpret_153 (by decide) (fun c_ => absurd c_ (by decide +kernel)) (fun _ => ?_)
      refine z_aload_n dX11_interpret_156 rfl rfl ?_
      refine z_getI dX11_interpret_157 fl_X11_38 rfl rfl (show _ = nI p by simp [z_up, dsS_92, hrp]) ?_
      refine z_if_lt (tgt := 176) dX11_interpret_160 (by decide) (fun c_ => absurd c_ (nI_pos (by omega))) (fun _ => ?_)
      refine z_iload dX11_interpret_163 rfl ?_
      refine z_aload_n dX11_interpret_165 rfl rfl ?_
      refine z_getI dX11_interpret_166 fl_X11_38 rfl rfl (show _ = nI p by simp [z_up, dsS_92, hrp]) ?_
      refine z_icmp_ne (tgt := 176) dX11_interpret_169 (by decide) (fun _ => ?_) (fun c_ => absurd c_ (nI_ne (by omega) (by omega) hqp))
      exact z_vret dX11_interpret_176 rfl rfl (by simp [riR, riN, riT, htk, hq])
  · refine z_aload_n dX11_interpret_29 rfl rfl ?_
    refine z_getR dX11_interpret_30 fl_X11_7 rfl rfl rfl ?_
    refine z_iload_n dX11_interpret_33 rfl rfl ?_
    refine z_iald dX11_interpret_34 rfl rfl (by omega) rfl ?_
    refine z_bipush (v := nI 14) dX11_interpret_35 (by decide) ?_
    refine z_icmp_ne (tgt := 58) dX11_interpret_37 (by decide) (fun c37 => ?_) (fun c37 => ?_)
    · refine z_iconst (v := 0) dX11_interpret_58 (by decide) ?_
      refine z_istore_n dX11_interpret_59 rfl (by decide) ?_
      show z_V _ _ _ _ _ _ _ _ _ [_, _, _, _, _] _ _
      have htk : tkn σ k = 0 := b2i_f (fun z => z.elim c26 (fun y => c37 y.1))
      refine z_aload_n dX11_interpret_60 rfl rfl ?_
      refine z_iload_n dX11_interpret_61 rfl rfl ?_
      refine z_cV1 dX11_interpret_62 ml_X11_188 (sp_does hok) rfl ⟨by decide, rfl⟩ rfl rfl (Nat.le_of_ble_eq_true rfl) ?_
      rw [hq]
      refine z_istore dX11_interpret_65 (by decide) ?_
      show z_V _ _ _ _ _ _ _ _ _ [_, _, _, _, _] _ _
      refine z_aload_n dX11_interpret_67 rfl rfl ?_
      refine z_dup dX11_interpret_68 rfl ?_
      refine z_getI dX11_interpret_69 fl_X11_148 rfl rfl (show _ = σ 92 31 from dsS_92 (by decide)) ?_
      refine z_iconst (v := 1) dX11_interpret_72 (by decide) ?_
      refine z_iadd dX11_interpret_73 rfl ?_
      refine z_putI dX11_interpret_74 fl_X11_148 rfl rfl (Or.inl rfl) rfl ?_
      refine z_aload_n dX11_interpret_77 rfl rfl ?_
      refine z_iconst (v := (-1)) dX11_interpret_78 (by decide) ?_
      refine z_putI dX11_interpret_79 fl_X11_48 rfl rfl (Or.inl rfl) rfl ?_
      refine z_iload_n dX11_interpret_82 rfl rfl ?_
      refine z_if_eq (tgt := 130) dX11_interpret_83 (by decide) (fun c_ => absurd c_ (by decide +kernel)) (fun _ => ?_)
      refine z_aload_n dX11_interpret_86 rfl rfl ?_
      refine z_getR dX11_interpret_87 fl_X11_41 rfl rfl rfl ?_
      refine z_aload_n dX11_interpret_90 rfl rfl ?_
      refine z_getI dX11_interpret_91 fl_X11_185 rfl rfl (show _ = nI g by simp [z_up, dsS_92, he16]) ?_
      refine z_iload_n dX11_interpret_94 rfl rfl ?_
      refine z_iast dX11_interpret_95 rfl rfl (by omega) ?_
      refine z_aload_n dX11_interpret_96 rfl rfl ?_
      refine z_getR dX11_interpret_97 fl_X11_44 rfl rfl rfl ?_
      refine z_aload_n dX11_interpret_100 rfl rfl ?_
      refine z_getI dX11_interpret_101 fl_X11_185 rfl rfl (show _ = nI g by simp [z_up, dsS_92, he16]) ?_
      refine z_iload_n dX11_interpret_104 rfl rfl ?_
      refine z_zast dX11_interpret_105 rfl rfl (by omega) (by first | exact Or.inl rfl | exact Or.inr rfl) ?_
      refine z_aload_n dX11_interpret_106 rfl rfl ?_
      refine z_dup dX11_interpret_107 rfl ?_
      refine z_getI dX11_interpret_108 fl_X11_185 rfl rfl (show _ = nI g by simp [z_up, dsS_92, he16]) ?_
      refine z_iconst (v := 1) dX11_interpret_111 (by decide) ?_
      refine z_iadd dX11_interpret_112 (nI_1 _) ?_
      refine z_putI dX11_interpret_113 fl_X11_185 rfl rfl (Or.inl rfl) rfl ?_
      refine z_iload dX11_interpret_116 rfl ?_
      refine z_iconst (v := (-1)) dX11_interpret_118 (by decide) ?_
      refine z_icmp_ne (tgt := 130) dX11_interpret_119 (by decide) (fun _ => ?_) (fun c_ => absurd c_ (nI_nm1 (by omega)))
      refine z_aload_n dX11_interpret_130 rfl rfl ?_
      refine z_iload dX11_interpret_131 rfl ?_
      refine z_putI dX11_interpret_133 fl_X11_19 rfl rfl (Or.inl rfl) rfl ?_
      refine z_iload_n dX11_interpret_136 rfl rfl ?_
      refine z_if_eq (tgt := 152) dX11_interpret_137 (by decide) (fun _ => ?_) (fun c_ => absurd (by decide +kernel) c_)
      refine z_iload_n dX11_interpret_152 rfl rfl ?_
      refine z_if_eq (tgt := 176) dX11_interpret_153 (by decide) (fun c_ => absurd c_ (by decide +kernel)) (fun _ => ?_)
      refine z_aload_n dX11_interpret_156 rfl rfl ?_
      refine z_getI dX11_interpret_157 fl_X11_38 rfl rfl (show _ = nI p by simp [z_up, dsS_92, hrp]) ?_
      refine z_if_lt (tgt := 176) dX11_interpret_160 (by decide) (fun c_ => absurd c_ (nI_pos (by omega))) (fun _ => ?_)
      refine z_iload dX11_interpret_163 rfl ?_
      refine z_aload_n dX11_interpret_165 rfl rfl ?_
      refine z_getI dX11_interpret_166 fl_X11_38 rfl rfl (show _ = nI p by simp [z_up, dsS_92, hrp]) ?_
      refine z_icmp_ne (tgt := 176) dX11_interpret_169 (by decide) (fun _ => ?_) (fun c_ => absurd c_ (nI_ne (by omega) (by omega) hqp))
      exact z_vret dX11_interpret_176 rfl rfl (by simp [riR, riN, riT, htk, hq])
    · obtain ⟨e, he8, he⟩ := hif c37
      refine z_aload_n dX11_interpret_40 rfl rfl ?_
      refine z_getR dX11_interpret_41 fl_X11_26 rfl rfl rfl ?_
      refine z_aload_n dX11_interpret_44 rfl rfl ?_
      refine z_getI dX11_interpret_45 fl_X11_139 rfl rfl he ?_
      refine z_iconst (v := 1) dX11_interpret_48 (by decide) ?_
      refine z_isub dX11_interpret_49 (nI_pred e) ?_
      refine z_iald dX11_interpret_50 rfl rfl (by omega) rfl ?_
      refine z_if_eq (tgt := 58) dX11_interpret_51 (by decide) (fun c51 => ?_) (fun c51 => ?_)
      · refine z_iconst (v := 0) dX11_interpret_58 (by decide) ?_
        refine z_istore_n dX11_interpret_59 rfl (by decide) ?_
        show z_V _ _ _ _ _ _ _ _ _ [_, _, _, _, _] _ _
        have htk : tkn σ k = 0 := b2i_f (fun z => z.elim c26 (fun y => y.2 (by rw [he, tN_nI (by omega)]; exact c51)))
        refine z_aload_n dX11_interpret_60 rfl rfl ?_
        refine z_iload_n dX11_interpret_61 rfl rfl ?_
        refine z_cV1 dX11_interpret_62 ml_X11_188 (sp_does hok) rfl ⟨by decide, rfl⟩ rfl rfl (Nat.le_of_ble_eq_true rfl) ?_
        rw [hq]
        refine z_istore dX11_interpret_65 (by decide) ?_
        show z_V _ _ _ _ _ _ _ _ _ [_, _, _, _, _] _ _
        refine z_aload_n dX11_interpret_67 rfl rfl ?_
        refine z_dup dX11_interpret_68 rfl ?_
        refine z_getI dX11_interpret_69 fl_X11_148 rfl rfl (show _ = σ 92 31 from dsS_92 (by decide)) ?_
        refine z_iconst (v := 1) dX11_interpret_72 (by decide) ?_
        refine z_iadd dX11_interpret_73 rfl ?_
        refine z_putI dX11_interpret_74 fl_X11_148 rfl rfl (Or.inl rfl) rfl ?_
        refine z_aload_n dX11_interpret_77 rfl rfl ?_
        refine z_iconst (v := (-1)) dX11_interpret_78 (by decide) ?_
        refine z_putI dX11_interpret_79 fl_X11_48 rfl rfl (Or.inl rfl) rfl ?_
        refine z_iload_n dX11_interpret_82 rfl rfl ?_
        refine z_if_eq (tgt := 130) dX11_interpret_83 (by decide) (fun c_ => absurd c_ (by decide +kernel)) (fun _ => ?_)
        refine z_aload_n dX11_interpret_86 rfl rfl ?_
        refine z_getR dX11_interpret_87 fl_X11_41 rfl rfl rfl ?_
        refine z_aload_n dX11_interpret_90 rfl rfl ?_
        refine z_getI dX11_interpret_91 fl_X11_185 rfl rfl (show _ = nI g by simp [z_up, dsS_92, he16]) ?_
        refine z_iload_n dX11_interpret_94 rfl rfl ?_
        refine z_iast dX11_interpret_95 rfl rfl (by omega) ?_
        refine z_aload_n dX11_interpret_96 rfl rfl ?_
        refine z_getR dX11_interpret_97 fl_X11_44 rfl rfl rfl ?_
        refine z_aload_n dX11_interpret_100 rfl rfl ?_
        refine z_getI dX11_interpret_101 fl_X11_185 rfl rfl (show _ = nI g by simp [z_up, dsS_92, he16]) ?_
        refine z_iload_n dX11_interpret_104 rfl rfl ?_
        refine z_zast dX11_interpret_105 rfl rfl (by omega) (by first | exact Or.inl rfl | exact Or.inr rfl) ?_
        refine z_aload_n dX11_interpret_106 rfl rfl ?_
        refine z_dup dX11_interpret_107 rfl ?_
        refine z_getI dX11_interpret_108 fl_X11_185 rfl rfl (show _ = nI g by simp [z_up, dsS_92, he16]) ?_
        refine z_iconst (v := 1) dX11_interpret_111 (by decide) ?_
        refine z_iadd dX11_interpret_112 (nI_1 _) ?_
        refine z_putI dX11_interpret_113 fl_X11_185 rfl rfl (Or.inl rfl) rfl ?_
        refine z_iload dX11_interpret_116 rfl ?_
        refine z_iconst (v := (-1)) dX11_interpret_118 (by decide) ?_
        refine z_icmp_ne (tgt := 130) dX11_interpret_119 (by decide) (fun _ => ?_) (fun c_ => absurd c_ (nI_nm1 (by omega)))
        refine z_aload_n dX11_interpret_130 rfl rfl ?_
        refine z_iload dX11_interpret_131 rfl ?_
        refine z_putI dX11_interpret_133 fl_X11_19 rfl rfl (Or.inl rfl) rfl ?_
        refine z_iload_n dX11_interpret_136 rfl rfl ?_
        refine z_if_eq (tgt := 152) dX11_interpret_137 (by decide) (fun _ => ?_) (fun c_ => absurd (by decide +kernel) c_)
        refine z_iload_n dX11_interpret_152 rfl rfl ?_
        refine z_if_eq (tgt := 176) dX11_interpret_153 (by decide) (fun c_ => absurd c_ (by decide +kernel)) (fun _ => ?_)
        refine z_aload_n dX11_interpret_156 rfl rfl ?_
        refine z_getI dX11_interpret_157 fl_X11_38 rfl rfl (show _ = nI p by simp [z_up, dsS_92, hrp]) ?_
        refine z_if_lt (tgt := 176) dX11_interpret_160 (by decide) (fun c_ => absurd c_ (nI_pos (by omega))) (fun _ => ?_)
        refine z_iload dX11_interpret_163 rfl ?_
        refine z_aload_n dX11_interpret_165 rfl rfl ?_
        refine z_getI dX11_interpret_166 fl_X11_38 rfl rfl (show _ = nI p by simp [z_up, dsS_92, hrp]) ?_
        refine z_icmp_ne (tgt := 176) dX11_interpret_169 (by decide) (fun _ => ?_) (fun c_ => absurd c_ (nI_ne (by omega) (by omega) hqp))
        exact z_vret dX11_interpret_176 rfl rfl (by simp [riR, riN, riT, htk, hq])
      · refine z_iconst (v := 1) dX11_interpret_54 (by decide) ?_
        refine z_goto (tgt := 59) dX11_interpret_55 (by decide) ?_
        refine z_istore_n dX11_interpret_59 rfl (by decide) ?_
        show z_V _ _ _ _ _ _ _ _ _ [_, _, _, _, _] _ _
        have htk : tkn σ k = 1 := b2i_t (Or.inr ⟨c37, by rw [he, tN_nI (by omega)]; exact c51⟩)
        refine z_aload_n dX11_interpret_60 rfl rfl ?_
        refine z_iload_n dX11_interpret_61 rfl rfl ?_
        refine z_cV1 dX11_interpret_62 ml_X11_188 (sp_does hok) rfl ⟨by decide, rfl⟩ rfl rfl (Nat.le_of_ble_eq_true rfl) ?_
        rw [hq]
        refine z_istore dX11_interpret_65 (by decide) ?_
        show z_V _ _ _ _ _ _ _ _ _ [_, _, _, _, _] _ _
        refine z_aload_n dX11_interpret_67 rfl rfl ?_
        refine z_dup dX11_interpret_68 rfl ?_
        refine z_getI dX11_interpret_69 fl_X11_148 rfl rfl (show _ = σ 92 31 from dsS_92 (by decide)) ?_
        refine z_iconst (v := 1) dX11_interpret_72 (by decide) ?_
        refine z_iadd dX11_interpret_73 rfl ?_
        refine z_putI dX11_interpret_74 fl_X11_148 rfl rfl (Or.inl rfl) rfl ?_
        refine z_aload_n dX11_interpret_77 rfl rfl ?_
        refine z_iconst (v := (-1)) dX11_interpret_78 (by decide) ?_
        refine z_putI dX11_interpret_79 fl_X11_48 rfl rfl (Or.inl rfl) rfl ?_
        refine z_iload_n dX11_interpret_82 rfl rfl ?_
        refine z_if_eq (tgt := 130) dX11_interpret_83 (by decide) (fun c_ => absurd c_ (by decide +kernel)) (fun _ => ?_)
        refine z_aload_n dX11_interpret_86 rfl rfl ?_
        refine z_getR dX11_interpret_87 fl_X11_41 rfl rfl rfl ?_
        refine z_aload_n dX11_interpret_90 rfl rfl ?_
        refine z_getI dX11_interpret_91 fl_X11_185 rfl rfl (show _ = nI g by simp [z_up, dsS_92, he16]) ?_
        refine z_iload_n dX11_interpret_94 rfl rfl ?_
        refine z_iast dX11_interpret_95 rfl rfl (by omega) ?_
        refine z_aload_n dX11_interpret_96 rfl rfl ?_
        refine z_getR dX11_interpret_97 fl_X11_44 rfl rfl rfl ?_
        refine z_aload_n dX11_interpret_100 rfl rfl ?_
        refine z_getI dX11_interpret_101 fl_X11_185 rfl rfl (show _ = nI g by simp [z_up, dsS_92, he16]) ?_
        refine z_iload_n dX11_interpret_104 rfl rfl ?_
        refine z_zast dX11_interpret_105 rfl rfl (by omega) (by first | exact Or.inl rfl | exact Or.inr rfl) ?_
        refine z_aload_n dX11_interpret_106 rfl rfl ?_
        refine z_dup dX11_interpret_107 rfl ?_
        refine z_getI dX11_interpret_108 fl_X11_185 rfl rfl (show _ = nI g by simp [z_up, dsS_92, he16]) ?_
        refine z_iconst (v := 1) dX11_interpret_111 (by decide) ?_
        refine z_iadd dX11_interpret_112 (nI_1 _) ?_
        refine z_putI dX11_interpret_113 fl_X11_185 rfl rfl (Or.inl rfl) rfl ?_
        refine z_iload dX11_interpret_116 rfl ?_
        refine z_iconst (v := (-1)) dX11_interpret_118 (by decide) ?_
        refine z_icmp_ne (tgt := 130) dX11_interpret_119 (by decide) (fun _ => ?_) (fun c_ => absurd c_ (nI_nm1 (by omega)))
        refine z_aload_n dX11_interpret_130 rfl rfl ?_
        refine z_iload dX11_interpret_131 rfl ?_
        refine z_putI dX11_interpret_133 fl_X11_19 rfl rfl (Or.inl rfl) rfl ?_
        refine z_iload_n dX11_interpret_136 rfl rfl ?_
        refine z_if_eq (tgt := 152) dX11_interpret_137 (by decide) (fun c_ => absurd c_ (by decide +kernel)) (fun _ => ?_)
        refine z_iload dX11_interpret_140 rfl ?_
        refine z_iload_n dX11_interpret_142 rfl rfl ?_
        refine z_icmp_gt (tgt := 152) dX11_interpret_143 (by decide) (fun c143 => ?_) (fun c143 => ?_)
        · refine z_iload_n dX11_interpret_152 rfl rfl ?_
          refine z_if_eq (tgt := 176) dX11_interpret_153 (by decide) (fun c_ => absurd c_ (by decide +kernel)) (fun _ => ?_)
          refine z_aload_n dX11_interpret_156 rfl rfl ?_
          refine z_getI dX11_interpret_157 fl_X11_38 rfl rfl (show _ = nI p by simp [z_up, dsS_92, hrp]) ?_
          refine z_if_lt (tgt := 176) dX11_interpret_160 (by decide) (fun c_ => absurd c_ (nI_pos (by omega))) (fun _ => ?_)
          refine z_iload dX11_interpret_163 rfl ?_
          refine z_aload_n dX11_interpret_165 rfl rfl ?_
          refine z_getI dX11_interpret_166 fl_X11_38 rfl rfl (show _ = nI p by simp [z_up, dsS_92, hrp]) ?_
          refine z_icmp_ne (tgt := 176) dX11_interpret_169 (by decide) (fun _ => ?_) (fun c_ => absurd c_ (nI_ne (by omega) (by omega) hqp))
          exact z_vret dX11_interpret_176 rfl rfl (by simp [riR, riN, riT, htk, hq])
        · refine z_aload_n dX11_interpret_146 rfl rfl ?_
          refine z_iload dX11_interpret_147 rfl ?_
          refine z_cV0 dX11_interpret_149 ml_X11_194 (sp_hot (p := q) hq40) rfl ⟨by decide, rfl⟩ rfl rfl (Nat.le_of_ble_eq_true rfl) ?_
          refine z_Vx (htS_rec (by simp [z_up, dsS_92, hrp]; exact nI_pos0 (n := p) (by omega))).symm ?_
          refine z_iload_n dX11_interpret_152 rfl rfl ?_
          refine z_if_eq (tgt := 176) dX11_interpret_153 (by decide) (fun c_ => absurd c_ (by decide +kernel)) (fun _ => ?_)
          refine z_aload_n dX11_interpret_156 rfl rfl ?_
          refine z_getI dX11_interpret_157 fl_X11_38 rfl rfl (show _ = nI p by simp [z_up, dsS_92, hrp]) ?_
          refine z_if_lt (tgt := 176) dX11_interpret_160 (by decide) (fun c_ => absurd c_ (nI_pos (by omega))) (fun _ => ?_)
          refine z_iload dX11_interpret_163 rfl ?_
          refine z_aload_n dX11_interpret_165 rfl rfl ?_
          refine z_getI dX11_interpret_166 fl_X11_38 rfl rfl (show _ = nI p by simp [z_up, dsS_92, hrp]) ?_
          refine z_icmp_ne (tgt := 176) dX11_interpret_169 (by decide) (fun _ => ?_) (fun c_ => absurd c_ (nI_ne (by omega) (by omega) hqp))
          exact z_vret dX11_interpret_176 rfl rfl (by simp [riR, riN, riT, htk, hq])
set_option maxRecDepth 100000 in
set_option maxHeartbeats 4000000 in
theorem sp_ri_make {d : Nat} {σ : Nat → Nat → Int32} {τ : Nat → Nat → Int64} {k : Nat} (ha : σ 92 7 = nI k) (hok : dsOK σ k) (hif : σ 93 k = nI 14 → ∃ e, e < 8 ∧ σ 92 9 = nI (e + 1)) {g p : Nat} (hrp : σ 92 15 = nI p) (hp40 : p < 40) (he16 : σ 92 16 = nI g) (he30 : g < 30) {σ2 : Nat → Nat → Int32} (hq : (dsS σ k).1 = nI p) (hmk : z_MV M_X11_makeTrace (d + 2) 0 0 [.ref 92] (124, z_r0, riR σ k g, τ) none (124, z_r0, σ2, τ)) : z_MV M_X11_interpret (d + 3) 0 0 [.ref 92] (124, z_r0, σ, τ) (none) (124, z_r0, σ2, τ) := by
  refine z_MV.of pn_X11_interpret (Nat.le_of_ble_eq_true rfl) (by simp [Value.category]) rfl ?_
  show z_V _ _ _ _ _ _ _ _ _ [_, _, _, _, _] _ _
  have hk40 := hok.1
  refine z_aload_n dX11_interpret_0 rfl rfl ?_
  refine z_getI dX11_interpret_1 fl_X11_19 rfl rfl ha ?_
  refine z_istore_n dX11_interpret_4 rfl (by decide) ?_
  show z_V _ _ _ _ _ _ _ _ _ [_, _, _, _, _] _ _
  refine z_aload_n dX11_interpret_5 rfl rfl ?_
  refine z_getI dX11_interpret_6 fl_X11_38 rfl rfl rfl ?_
  refine z_if_lt (tgt := 16) dX11_interpret_9 (by decide) (fun c_ => absurd c_ (by rw [hrp]; exact nI_pos (by omega))) (fun _ => ?_)
  refine z_iconst (v := 1) dX11_interpret_12 (by decide) ?_
  refine z_goto (tgt := 17) dX11_interpret_13 (by decide) ?_
  refine z_istore_n dX11_interpret_17 rfl (by decide) ?_
  show z_V _ _ _ _ _ _ _ _ _ [_, _, _, _, _] _ _
  refine z_aload_n dX11_interpret_18 rfl rfl ?_
  refine z_getR dX11_interpret_19 fl_X11_7 rfl rfl rfl ?_
  refine z_iload_n dX11_interpret_22 rfl rfl ?_
  refine z_iald dX11_interpret_23 rfl rfl (by omega) rfl ?_
  refine z_bipush (v := nI 13) dX11_interpret_24 (by decide) ?_
  refine z_icmp_eq (tgt := 54) dX11_interpret_26 (by decide) (fun c26 => ?_) (fun c26 => ?_)
  · refine z_iconst (v := 1) dX11_interpret_54 (by decide) ?_
    refine z_goto (tgt := 59) dX11_interpret_55 (by decide) ?_
    refine z_istore_n dX11_interpret_59 rfl (by decide) ?_
    show z_V _ _ _ _ _ _ _ _ _ [_, _, _, _, _] _ _
    have htk : tkn σ k = 1 := b2i_t (Or.inl c26)
    refine z_aload_n dX11_interpret_60 rfl rfl ?_
    refine z_iload_n dX11_interpret_61 rfl rfl ?_
    refine z_cV1 dX11_interpret_62 ml_X11_188 (sp_does hok) rfl ⟨by decide, rfl⟩ rfl rfl (Nat.le_of_ble_eq_true rfl) ?_
    rw [hq]
    refine z_istore dX11_interpret_65 (by decide) ?_
    show z_V _ _ _ _ _ _ _ _ _ [_, _, _, _, _] _ _
    refine z_aload_n dX11_interpret_67 rfl rfl ?_
    refine z_dup dX11_interpret_68 rfl ?_
    refine z_getI dX11_interpret_69 fl_X11_148 rfl rfl (show _ = σ 92 31 from dsS_92 (by decide)) ?_
    refine z_iconst (v := 1) dX11_interpret_72 (by decide) ?_
    refine z_iadd dX11_interpret_73 rfl ?_
    refine z_putI dX11_interpret_74 fl_X11_148 rfl rfl (Or.inl rfl) rfl ?_
    refine z_aload_n dX11_interpret_77 rfl rfl ?_
    refine z_iconst (v := (-1)) dX11_interpret_78 (by decide) ?_
    refine z_putI dX11_interpret_79 fl_X11_48 rfl rfl (Or.inl rfl) rfl ?_
    refine z_iload_n dX11_interpret_82 rfl rfl ?_
    refine z_if_eq (tgt := 130) dX11_interpret_83 (by decide) (fun c_ => absurd c_ (by decide +kernel)) (fun _ => ?_)
    refine z_aload_n dX11_interpret_86 rfl rfl ?_
    refine z_getR dX11_interpret_87 fl_X11_41 rfl rfl rfl ?_
    refine z_aload_n dX11_interpret_90 rfl rfl ?_
    refine z_getI dX11_interpret_91 fl_X11_185 rfl rfl (show _ = nI g by simp [z_up, dsS_92, he16]) ?_
    refine z_iload_n dX11_interpret_94 rfl rfl ?_
    refine z_iast dX11_interpret_95 rfl rfl (by omega) ?_
    refine z_aload_n dX11_interpret_96 rfl rfl ?_
    refine z_getR dX11_interpret_97 fl_X11_44 rfl rfl rfl ?_
    refine z_aload_n dX11_interpret_100 rfl rfl ?_
    refine z_getI dX11_interpret_101 fl_X11_185 rfl rfl (show _ = nI g by simp [z_up, dsS_92, he16]) ?_
    refine z_iload_n dX11_interpret_104 rfl rfl ?_
    refine z_zast dX11_interpret_105 rfl rfl (by omega) (by first | exact Or.inl rfl | exact Or.inr rfl) ?_
    refine z_aload_n dX11_interpret_106 rfl rfl ?_
    refine z_dup dX11_interpret_107 rfl ?_
    refine z_getI dX11_interpret_108 fl_X11_185 rfl rfl (show _ = nI g by simp [z_up, dsS_92, he16]) ?_
    refine z_iconst (v := 1) dX11_interpret_111 (by decide) ?_
    refine z_iadd dX11_interpret_112 (nI_1 _) ?_
    refine z_putI dX11_interpret_113 fl_X11_185 rfl rfl (Or.inl rfl) rfl ?_
    refine z_iload dX11_interpret_116 rfl ?_
    refine z_iconst (v := (-1)) dX11_interpret_118 (by decide) ?_
    refine z_icmp_ne (tgt := 130) dX11_interpret_119 (by decide) (fun _ => ?_) (fun c_ => absurd c_ (nI_nm1 (by omega)))
    refine z_aload_n dX11_interpret_130 rfl rfl ?_
    refine z_iload dX11_interpret_131 rfl ?_
    refine z_putI dX11_interpret_133 fl_X11_19 rfl rfl (Or.inl rfl) rfl ?_
    refine z_iload_n dX11_interpret_136 rfl rfl ?_
    refine z_if_eq (tgt := 152) dX11_interpret_137 (by decide) (fun c_ => absurd c_ (by decide +kernel)) (fun _ => ?_)
    refine z_iload dX11_interpret_140 rfl ?_
    refine z_iload_n dX11_interpret_142 rfl rfl ?_
    refine z_icmp_gt (tgt := 152) dX11_interpret_143 (by decide) (fun c143 => ?_) (fun c143 => ?_)
    · refine z_iload_n dX11_interpret_152 rfl rfl ?_
      refine z_if_eq (tgt := 176) dX11_interpret_153 (by decide) (fun c_ => absurd c_ (by decide +kernel)) (fun _ => ?_)
      refine z_aload_n dX11_interpret_156 rfl rfl ?_
      refine z_getI dX11_interpret_157 fl_X11_38 rfl rfl (show _ = nI p by simp [z_up, dsS_92, hrp]) ?_
      refine z_if_lt (tgt := 176) dX11_interpret_160 (by decide) (fun c_ => absurd c_ (nI_pos (by omega))) (fun _ => ?_)
      refine z_iload dX11_interpret_163 rfl ?_
      refine z_aload_n dX11_interpret_165 rfl rfl ?_
      refine z_getI dX11_interpret_166 fl_X11_38 rfl rfl (show _ = nI p by simp [z_up, dsS_92, hrp]) ?_
      refine z_icmp_ne (tgt := 176) dX11_interpret_169 (by decide) (fun c_ => absurd (rfl) c_) (fun _ => ?_)
      refine z_Vx (σ' := riR σ k g) (by simp [riR, riN, riT, htk, hq]) ?_
      refine z_aload_n dX11_interpret_172 rfl rfl ?_
      refine z_cV0 dX11_interpret_173 ml_X11_197 (hmk) rfl ⟨by decide, rfl⟩ rfl rfl (Nat.le_of_ble_eq_true rfl) ?_
      exact z_vret dX11_interpret_176 rfl rfl rfl
    · refine z_aload_n dX11_interpret_146 rfl rfl ?_
      refine z_iload dX11_interpret_147 rfl ?_
      refine z_cV0 dX11_interpret_149 ml_X11_194 (sp_hot (p := p) hp40) rfl ⟨by decide, rfl⟩ rfl rfl (Nat.le_of_ble_eq_true rfl) ?_
      refine z_Vx (htS_rec (by simp [z_up, dsS_92, hrp]; exact nI_pos0 (n := p) (by omega))).symm ?_
      refine z_iload_n dX11_interpret_152 rfl rfl ?_
      refine z_if_eq (tgt := 176) dX11_interpret_153 (by decide) (fun c_ => absurd c_ (by decide +kernel)) (fun _ => ?_)
      refine z_aload_n dX11_interpret_156 rfl rfl ?_
      refine z_getI dX11_interpret_157 fl_X11_38 rfl rfl (show _ = nI p by simp [z_up, dsS_92, hrp]) ?_
      refine z_if_lt (tgt := 176) dX11_interpret_160 (by decide) (fun c_ => absurd c_ (nI_pos (by omega))) (fun _ => ?_)
      refine z_iload dX11_interpret_163 rfl ?_
      refine z_aload_n dX11_interpret_165 rfl rfl ?_
      refine z_getI dX11_interpret_166 fl_X11_38 rfl rfl (show _ = nI p by simp [z_up, dsS_92, hrp]) ?_
      refine z_icmp_ne (tgt := 176) dX11_interpret_169 (by decide) (fun c_ => absurd (rfl) c_) (fun _ => ?_)
      refine z_Vx (σ' := riR σ k g) (by simp [riR, riN, riT, htk, hq]) ?_
      refine z_aload_n dX11_interpret_172 rfl rfl ?_
      refine z_cV0 dX11_interpret_173 ml_X11_197 (hmk) rfl ⟨by decide, rfl⟩ rfl rfl (Nat.le_of_ble_eq_true rfl) ?_
      exact z_vret dX11_interpret_176 rfl rfl rfl
  · refine z_aload_n dX11_interpret_29 rfl rfl ?_
    refine z_getR dX11_interpret_30 fl_X11_7 rfl rfl rfl ?_
    refine z_iload_n dX11_interpret_33 rfl rfl ?_
    refine z_iald dX11_interpret_34 rfl rfl (by omega) rfl ?_
    refine z_bipush (v := nI 14) dX11_interpret_35 (by decide) ?_
    refine z_icmp_ne (tgt := 58) dX11_interpret_37 (by decide) (fun c37 => ?_) (fun c37 => ?_)
    · refine z_iconst (v := 0) dX11_interpret_58 (by decide) ?_
      refine z_istore_n dX11_interpret_59 rfl (by decide) ?_
      show z_V _ _ _ _ _ _ _ _ _ [_, _, _, _, _] _ _
      have htk : tkn σ k = 0 := b2i_f (fun z => z.elim c26 (fun y => c37 y.1))
      refine z_aload_n dX11_interpret_60 rfl rfl ?_
      refine z_iload_n dX11_interpret_61 rfl rfl ?_
      refine z_cV1 dX11_interpret_62 ml_X11_188 (sp_does hok) rfl ⟨by decide, rfl⟩ rfl rfl (Nat.le_of_ble_eq_true rfl) ?_
      rw [hq]
      refine z_istore dX11_interpret_65 (by decide) ?_
      show z_V _ _ _ _ _ _ _ _ _ [_, _, _, _, _] _ _
      refine z_aload_n dX11_interpret_67 rfl rfl ?_
      refine z_dup dX11_interpret_68 rfl ?_
      refine z_getI dX11_interpret_69 fl_X11_148 rfl rfl (show _ = σ 92 31 from dsS_92 (by decide)) ?_
      refine z_iconst (v := 1) dX11_interpret_72 (by decide) ?_
      refine z_iadd dX11_interpret_73 rfl ?_
      refine z_putI dX11_interpret_74 fl_X11_148 rfl rfl (Or.inl rfl) rfl ?_
      refine z_aload_n dX11_interpret_77 rfl rfl ?_
      refine z_iconst (v := (-1)) dX11_interpret_78 (by decide) ?_
      refine z_putI dX11_interpret_79 fl_X11_48 rfl rfl (Or.inl rfl) rfl ?_
      refine z_iload_n dX11_interpret_82 rfl rfl ?_
      refine z_if_eq (tgt := 130) dX11_interpret_83 (by decide) (fun c_ => absurd c_ (by decide +kernel)) (fun _ => ?_)
      refine z_aload_n dX11_interpret_86 rfl rfl ?_
      refine z_getR dX11_interpret_87 fl_X11_41 rfl rfl rfl ?_
      refine z_aload_n dX11_interpret_90 rfl rfl ?_
      refine z_getI dX11_interpret_91 fl_X11_185 rfl rfl (show _ = nI g by simp [z_up, dsS_92, he16]) ?_
      refine z_iload_n dX11_interpret_94 rfl rfl ?_
      refine z_iast dX11_interpret_95 rfl rfl (by omega) ?_
      refine z_aload_n dX11_interpret_96 rfl rfl ?_
      refine z_getR dX11_interpret_97 fl_X11_44 rfl rfl rfl ?_
      refine z_aload_n dX11_interpret_100 rfl rfl ?_
      refine z_getI dX11_interpret_101 fl_X11_185 rfl rfl (show _ = nI g by simp [z_up, dsS_92, he16]) ?_
      refine z_iload_n dX11_interpret_104 rfl rfl ?_
      refine z_zast dX11_interpret_105 rfl rfl (by omega) (by first | exact Or.inl rfl | exact Or.inr rfl) ?_
      refine z_aload_n dX11_interpret_106 rfl rfl ?_
      refine z_dup dX11_interpret_107 rfl ?_
      refine z_getI dX11_interpret_108 fl_X11_185 rfl rfl (show _ = nI g by simp [z_up, dsS_92, he16]) ?_
      refine z_iconst (v := 1) dX11_interpret_111 (by decide) ?_
      refine z_iadd dX11_interpret_112 (nI_1 _) ?_
      refine z_putI dX11_interpret_113 fl_X11_185 rfl rfl (Or.inl rfl) rfl ?_
      refine z_iload dX11_interpret_116 rfl ?_
      refine z_iconst (v := (-1)) dX11_interpret_118 (by decide) ?_
      refine z_icmp_ne (tgt := 130) dX11_interpret_119 (by decide) (fun _ => ?_) (fun c_ => absurd c_ (nI_nm1 (by omega)))
      refine z_aload_n dX11_interpret_130 rfl rfl ?_
      refine z_iload dX11_interpret_131 rfl ?_
      refine z_putI dX11_interpret_133 fl_X11_19 rfl rfl (Or.inl rfl) rfl ?_
      refine z_iload_n dX11_interpret_136 rfl rfl ?_
      refine z_if_eq (tgt := 152) dX11_interpret_137 (by decide) (fun _ => ?_) (fun c_ => absurd (by decide +kernel) c_)
      refine z_iload_n dX11_interpret_152 rfl rfl ?_
      refine z_if_eq (tgt := 176) dX11_interpret_153 (by decide) (fun c_ => absurd c_ (by decide +kernel)) (fun _ => ?_)
      refine z_aload_n dX11_interpret_156 rfl rfl ?_
      refine z_getI dX11_interpret_157 fl_X11_38 rfl rfl (show _ = nI p by simp [z_up, dsS_92, hrp]) ?_
      refine z_if_lt (tgt := 176) dX11_interpret_160 (by decide) (fun c_ => absurd c_ (nI_pos (by omega))) (fun _ => ?_)
      refine z_iload dX11_interpret_163 rfl ?_
      refine z_aload_n dX11_interpret_165 rfl rfl ?_
      refine z_getI dX11_interpret_166 fl_X11_38 rfl rfl (show _ = nI p by simp [z_up, dsS_92, hrp]) ?_
      refine z_icmp_ne (tgt := 176) dX11_interpret_169 (by decide) (fun c_ => absurd (rfl) c_) (fun _ => ?_)
      refine z_Vx (σ' := riR σ k g) (by simp [riR, riN, riT, htk, hq]) ?_
      refine z_aload_n dX11_interpret_172 rfl rfl ?_
      refine z_cV0 dX11_interpret_173 ml_X11_197 (hmk) rfl ⟨by decide, rfl⟩ rfl rfl (Nat.le_of_ble_eq_true rfl) ?_
      exact z_vret dX11_interpret_176 rfl rfl rfl
    · obtain ⟨e, he8, he⟩ := hif c37
      refine z_aload_n dX11_interpret_40 rfl rfl ?_
      refine z_getR dX11_interpret_41 fl_X11_26 rfl rfl rfl ?_
      refine z_aload_n dX11_interpret_44 rfl rfl ?_
      refine z_getI dX11_interpret_45 fl_X11_139 rfl rfl he ?_
      refine z_iconst (v := 1) dX11_interpret_48 (by decide) ?_
      refine z_isub dX11_interpret_49 (nI_pred e) ?_
      refine z_iald dX11_interpret_50 rfl rfl (by omega) rfl ?_
      refine z_if_eq (tgt := 58) dX11_interpret_51 (by decide) (fun c51 => ?_) (fun c51 => ?_)
      · refine z_iconst (v := 0) dX11_interpret_58 (by decide) ?_
        refine z_istore_n dX11_interpret_59 rfl (by decide) ?_
        show z_V _ _ _ _ _ _ _ _ _ [_, _, _, _, _] _ _
        have htk : tkn σ k = 0 := b2i_f (fun z => z.elim c26 (fun y => y.2 (by rw [he, tN_nI (by omega)]; exact c51)))
        refine z_aload_n dX11_interpret_60 rfl rfl ?_
        refine z_iload_n dX11_interpret_61 rfl rfl ?_
        refine z_cV1 dX11_interpret_62 ml_X11_188 (sp_does hok) rfl ⟨by decide, rfl⟩ rfl rfl (Nat.le_of_ble_eq_true rfl) ?_
        rw [hq]
        refine z_istore dX11_interpret_65 (by decide) ?_
        show z_V _ _ _ _ _ _ _ _ _ [_, _, _, _, _] _ _
        refine z_aload_n dX11_interpret_67 rfl rfl ?_
        refine z_dup dX11_interpret_68 rfl ?_
        refine z_getI dX11_interpret_69 fl_X11_148 rfl rfl (show _ = σ 92 31 from dsS_92 (by decide)) ?_
        refine z_iconst (v := 1) dX11_interpret_72 (by decide) ?_
        refine z_iadd dX11_interpret_73 rfl ?_
        refine z_putI dX11_interpret_74 fl_X11_148 rfl rfl (Or.inl rfl) rfl ?_
        refine z_aload_n dX11_interpret_77 rfl rfl ?_
        refine z_iconst (v := (-1)) dX11_interpret_78 (by decide) ?_
        refine z_putI dX11_interpret_79 fl_X11_48 rfl rfl (Or.inl rfl) rfl ?_
        refine z_iload_n dX11_interpret_82 rfl rfl ?_
        refine z_if_eq (tgt := 130) dX11_interpret_83 (by decide) (fun c_ => absurd c_ (by decide +kernel)) (fun _ => ?_)
        refine z_aload_n dX11_interpret_86 rfl rfl ?_
        refine z_getR dX11_interpret_87 fl_X11_41 rfl rfl rfl ?_
        refine z_aload_n dX11_interpret_90 rfl rfl ?_
        refine z_getI dX11_interpret_91 fl_X11_185 rfl rfl (show _ = nI g by simp [z_up, dsS_92, he16]) ?_
        refine z_iload_n dX11_interpret_94 rfl rfl ?_
        refine z_iast dX11_interpret_95 rfl rfl (by omega) ?_
        refine z_aload_n dX11_interpret_96 rfl rfl ?_
        refine z_getR dX11_interpret_97 fl_X11_44 rfl rfl rfl ?_
        refine z_aload_n dX11_interpret_100 rfl rfl ?_
        refine z_getI dX11_interpret_101 fl_X11_185 rfl rfl (show _ = nI g by simp [z_up, dsS_92, he16]) ?_
        refine z_iload_n dX11_interpret_104 rfl rfl ?_
        refine z_zast dX11_interpret_105 rfl rfl (by omega) (by first | exact Or.inl rfl | exact Or.inr rfl) ?_
        refine z_aload_n dX11_interpret_106 rfl rfl ?_
        refine z_dup dX11_interpret_107 rfl ?_
        refine z_getI dX11_interpret_108 fl_X11_185 rfl rfl (show _ = nI g by simp [z_up, dsS_92, he16]) ?_
        refine z_iconst (v := 1) dX11_interpret_111 (by decide) ?_
        refine z_iadd dX11_interpret_112 (nI_1 _) ?_
        refine z_putI dX11_interpret_113 fl_X11_185 rfl rfl (Or.inl rfl) rfl ?_
        refine z_iload dX11_interpret_116 rfl ?_
        refine z_iconst (v := (-1)) dX11_interpret_118 (by decide) ?_
        refine z_icmp_ne (tgt := 130) dX11_interpret_119 (by decide) (fun _ => ?_) (fun c_ => absurd c_ (nI_nm1 (by omega)))
        refine z_aload_n dX11_interpret_130 rfl rfl ?_
        refine z_iload dX11_interpret_131 rfl ?_
        refine z_putI dX11_interpret_133 fl_X11_19 rfl rfl (Or.inl rfl) rfl ?_
        refine z_iload_n dX11_interpret_136 rfl rfl ?_
        refine z_if_eq (tgt := 152) dX11_interpret_137 (by decide) (fun _ => ?_) (fun c_ => absurd (by decide +kernel) c_)
        refine z_iload_n dX11_interpret_152 rfl rfl ?_
        refine z_if_eq (tgt := 176) dX11_interpret_153 (by decide) (fun c_ => absurd c_ (by decide +kernel)) (fun _ => ?_)
        refine z_aload_n dX11_interpret_156 rfl rfl ?_
        refine z_getI dX11_interpret_157 fl_X11_38 rfl rfl (show _ = nI p by simp [z_up, dsS_92, hrp]) ?_
        refine z_if_lt (tgt := 176) dX11_interpret_160 (by decide) (fun c_ => absurd c_ (nI_pos (by omega))) (fun _ => ?_)
        refine z_iload dX11_interpret_163 rfl ?_
        refine z_aload_n dX11_interpret_165 rfl rfl ?_
        refine z_getI dX11_interpret_166 fl_X11_38 rfl rfl (show _ = nI p by simp [z_up, dsS_92, hrp]) ?_
        refine z_icmp_ne (tgt := 176) dX11_interpret_169 (by decide) (fun c_ => absurd (rfl) c_) (fun _ => ?_)
        refine z_Vx (σ' := riR σ k g) (by simp [riR, riN, riT, htk, hq]) ?_
        refine z_aload_n dX11_interpret_172 rfl rfl ?_
        refine z_cV0 dX11_interpret_173 ml_X11_197 (hmk) rfl ⟨by decide, rfl⟩ rfl rfl (Nat.le_of_ble_eq_true rfl) ?_
        exact z_vret dX11_interpret_176 rfl rfl rfl
      · refine z_iconst (v := 1) dX11_interpret_54 (by decide) ?_
        refine z_goto (tgt := 59) dX11_interpret_55 (by decide) ?_
        refine z_istore_n dX11_interpret_59 rfl (by decide) ?_
        show z_V _ _ _ _ _ _ _ _ _ [_, _, _, _, _] _ _
        have htk : tkn σ k = 1 := b2i_t (Or.inr ⟨c37, by rw [he, tN_nI (by omega)]; exact c51⟩)
        refine z_aload_n dX11_interpret_60 rfl rfl ?_
        refine z_iload_n dX11_interpret_61 rfl rfl ?_
        refine z_cV1 dX11_interpret_62 ml_X11_188 (sp_does hok) rfl ⟨by decide, rfl⟩ rfl rfl (Nat.le_of_ble_eq_true rfl) ?_
        rw [hq]
        refine z_istore dX11_interpret_65 (by decide) ?_
        show z_V _ _ _ _ _ _ _ _ _ [_, _, _, _, _] _ _
        refine z_aload_n dX11_interpret_67 rfl rfl ?_
        refine z_dup dX11_interpret_68 rfl ?_
        refine z_getI dX11_interpret_69 fl_X11_148 rfl rfl (show _ = σ 92 31 from dsS_92 (by decide)) ?_
        refine z_iconst (v := 1) dX11_interpret_72 (by decide) ?_
        refine z_iadd dX11_interpret_73 rfl ?_
        refine z_putI dX11_interpret_74 fl_X11_148 rfl rfl (Or.inl rfl) rfl ?_
        refine z_aload_n dX11_interpret_77 rfl rfl ?_
        refine z_iconst (v := (-1)) dX11_interpret_78 (by decide) ?_
        refine z_putI dX11_interpret_79 fl_X11_48 rfl rfl (Or.inl rfl) rfl ?_
        refine z_iload_n dX11_interpret_82 rfl rfl ?_
        refine z_if_eq (tgt := 130) dX11_interpret_83 (by decide) (fun c_ => absurd c_ (by decide +kernel)) (fun _ => ?_)
        refine z_aload_n dX11_interpret_86 rfl rfl ?_
        refine z_getR dX11_interpret_87 fl_X11_41 rfl rfl rfl ?_
        refine z_aload_n dX11_interpret_90 rfl rfl ?_
        refine z_getI dX11_interpret_91 fl_X11_185 rfl rfl (show _ = nI g by simp [z_up, dsS_92, he16]) ?_
        refine z_iload_n dX11_interpret_94 rfl rfl ?_
        refine z_iast dX11_interpret_95 rfl rfl (by omega) ?_
        refine z_aload_n dX11_interpret_96 rfl rfl ?_
        refine z_getR dX11_interpret_97 fl_X11_44 rfl rfl rfl ?_
        refine z_aload_n dX11_interpret_100 rfl rfl ?_
        refine z_getI dX11_interpret_101 fl_X11_185 rfl rfl (show _ = nI g by simp [z_up, dsS_92, he16]) ?_
        refine z_iload_n dX11_interpret_104 rfl rfl ?_
        refine z_zast dX11_interpret_105 rfl rfl (by omega) (by first | exact Or.inl rfl | exact Or.inr rfl) ?_
        refine z_aload_n dX11_interpret_106 rfl rfl ?_
        refine z_dup dX11_interpret_107 rfl ?_
        refine z_getI dX11_interpret_108 fl_X11_185 rfl rfl (show _ = nI g by simp [z_up, dsS_92, he16]) ?_
        refine z_iconst (v := 1) dX11_interpret_111 (by decide) ?_
        refine z_iadd dX11_interpret_112 (nI_1 _) ?_
        refine z_putI dX11_interpret_113 fl_X11_185 rfl rfl (Or.inl rfl) rfl ?_
        refine z_iload dX11_interpret_116 rfl ?_
        refine z_iconst (v := (-1)) dX11_interpret_118 (by decide) ?_
        refine z_icmp_ne (tgt := 130) dX11_interpret_119 (by decide) (fun _ => ?_) (fun c_ => absurd c_ (nI_nm1 (by omega)))
        refine z_aload_n dX11_interpret_130 rfl rfl ?_
        refine z_iload dX11_interpret_131 rfl ?_
        refine z_putI dX11_interpret_133 fl_X11_19 rfl rfl (Or.inl rfl) rfl ?_
        refine z_iload_n dX11_interpret_136 rfl rfl ?_
        refine z_if_eq (tgt := 152) dX11_interpret_137 (by decide) (fun c_ => absurd c_ (by decide +kernel)) (fun _ => ?_)
        refine z_iload dX11_interpret_140 rfl ?_
        refine z_iload_n dX11_interpret_142 rfl rfl ?_
        refine z_icmp_gt (tgt := 152) dX11_interpret_143 (by decide) (fun c143 => ?_) (fun c143 => ?_)
        · refine z_iload_n dX11_interpret_152 rfl rfl ?_
          refine z_if_eq (tgt := 176) dX11_interpret_153 (by decide) (fun c_ => absurd c_ (by decide +kernel)) (fun _ => ?_)
          refine z_aload_n dX11_interpret_156 rfl rfl ?_
          refine z_getI dX11_interpret_157 fl_X11_38 rfl rfl (show _ = nI p by simp [z_up, dsS_92, hrp]) ?_
          refine z_if_lt (tgt := 176) dX11_interpret_160 (by decide) (fun c_ => absurd c_ (nI_pos (by omega))) (fun _ => ?_)
          refine z_iload dX11_interpret_163 rfl ?_
          refine z_aload_n dX11_interpret_165 rfl rfl ?_
          refine z_getI dX11_interpret_166 fl_X11_38 rfl rfl (show _ = nI p by simp [z_up, dsS_92, hrp]) ?_
          refine z_icmp_ne (tgt := 176) dX11_interpret_169 (by decide) (fun c_ => absurd (rfl) c_) (fun _ => ?_)
          refine z_Vx (σ' := riR σ k g) (by simp [riR, riN, riT, htk, hq]) ?_
          refine z_aload_n dX11_interpret_172 rfl rfl ?_
          refine z_cV0 dX11_interpret_173 ml_X11_197 (hmk) rfl ⟨by decide, rfl⟩ rfl rfl (Nat.le_of_ble_eq_true rfl) ?_
          exact z_vret dX11_interpret_176 rfl rfl rfl
        · refine z_aload_n dX11_interpret_146 rfl rfl ?_
          refine z_iload dX11_interpret_147 rfl ?_
          refine z_cV0 dX11_interpret_149 ml_X11_194 (sp_hot (p := p) hp40) rfl ⟨by decide, rfl⟩ rfl rfl (Nat.le_of_ble_eq_true rfl) ?_
          refine z_Vx (htS_rec (by simp [z_up, dsS_92, hrp]; exact nI_pos0 (n := p) (by omega))).symm ?_
          refine z_iload_n dX11_interpret_152 rfl rfl ?_
          refine z_if_eq (tgt := 176) dX11_interpret_153 (by decide) (fun c_ => absurd c_ (by decide +kernel)) (fun _ => ?_)
          refine z_aload_n dX11_interpret_156 rfl rfl ?_
          refine z_getI dX11_interpret_157 fl_X11_38 rfl rfl (show _ = nI p by simp [z_up, dsS_92, hrp]) ?_
          refine z_if_lt (tgt := 176) dX11_interpret_160 (by decide) (fun c_ => absurd c_ (nI_pos (by omega))) (fun _ => ?_)
          refine z_iload dX11_interpret_163 rfl ?_
          refine z_aload_n dX11_interpret_165 rfl rfl ?_
          refine z_getI dX11_interpret_166 fl_X11_38 rfl rfl (show _ = nI p by simp [z_up, dsS_92, hrp]) ?_
          refine z_icmp_ne (tgt := 176) dX11_interpret_169 (by decide) (fun c_ => absurd (rfl) c_) (fun _ => ?_)
          refine z_Vx (σ' := riR σ k g) (by simp [riR, riN, riT, htk, hq]) ?_
          refine z_aload_n dX11_interpret_172 rfl rfl ?_
          refine z_cV0 dX11_interpret_173 ml_X11_197 (hmk) rfl ⟨by decide, rfl⟩ rfl rfl (Nat.le_of_ble_eq_true rfl) ?_
          exact z_vret dX11_interpret_176 rfl rfl rfl
def goesB (σ : Nat → Nat → Int32) (k : Nat) : Int32 := b2i (σ 93 k = nI 14 ∧ ¬ σ 97 (tN (σ 92 9) - 1) = 0)
def tnE (σ : Nat → Nat → Int32) (t n : Nat) : Nat → Nat → Int32 := z_up (z_up (z_up (z_up σ 92 34 (σ 92 34 + σ 107 (30 * t + n - 1))) 92 32 (σ 92 32 + 1)) 92 20 (nI t)) 92 7 (σ 103 t)
def tnL (σ : Nat → Nat → Int32) (b k : Nat) : Nat → Nat → Int32 := z_up (z_up (z_up (dsS σ k).2 92 34 (σ 92 34 + σ 107 b)) 92 33 (σ 92 33 + 1)) 92 7 (dsS σ k).1
def tnF (t n : Nat) : Nat → Nat → (Nat → Nat → Int32) → Nat → Nat → Int32
  | 0, _, σ => tnE σ t n
  | m + 1, j, σ => if σ 93 (tN (σ 105 (30 * t + j))) = nI 14 ∧ ¬ goesB σ (tN (σ 105 (30 * t + j))) = σ 106 (30 * t + j) then tnL σ (30 * t + j) (tN (σ 105 (30 * t + j))) else tnF t n m (j + 1) (dsS σ (tN (σ 105 (30 * t + j)))).2
def tn0 (σ : Nat → Nat → Int32) (t : Nat) : Nat → Nat → Int32 := z_up (if σ 92 20 = nI t then σ else z_up σ 92 34 (σ 92 34 + σ 108 t)) 92 20 (-1)
/-- what holds at each place of a turn -/
def tnI (t n : Nat) (I : Nat → (Nat → Nat → Int32) → Prop) : Prop := ∀ j σ, j ≤ n → I j σ → σ 104 t = nI n ∧ (j < n → ∃ k, k < 40 ∧ σ 105 (30 * t + j) = nI k ∧ dsOK σ k ∧ (σ 93 k = nI 14 → ∃ e, e < 8 ∧ σ 92 9 = nI (e + 1)) ∧ (¬ (σ 93 k = nI 14 ∧ ¬ goesB σ k = σ 106 (30 * t + j)) → I (j + 1) (dsS σ k).2))
set_option maxRecDepth 100000 in
set_option maxHeartbeats 4000000 in
theorem turn_loop {d : Nat} {τ : Nat → Nat → Int64} {t n : Nat} (ht : t < 4) (hn0 : 0 < n) (hn30 : n ≤ 30) {I : Nat → (Nat → Nat → Int32) → Prop} (hI : tnI t n I) : ∀ (m v : Nat) (σ : Nat → Nat → Int32) (w4 w5 w6 : Option Value), I v σ → v + m = n → z_V M_X11_turn (d + 2) 0 0 0 0 none (124, z_r0, tnF t n m v σ, τ) 35 [some (.ref 92), some (.int (nI t)), some (.int (nI (30 * t))), some (.int (nI v)), w4, w5, w6] [] (124, z_r0, σ, τ) := by
  intro m
  induction m using Nat.strongRecOn with
  | ind m ih =>
    intro v σ w4 w5 w6 hIv hv
    obtain ⟨hlen, hstep⟩ := hI v σ (by omega) hIv
    refine z_iload_n dX11_turn_35 rfl rfl ?_
    refine z_aload_n dX11_turn_36 rfl rfl ?_
    refine z_getR dX11_turn_37 fl_X11_54 rfl rfl rfl ?_
    refine z_iload_n dX11_turn_40 rfl rfl ?_
    refine z_iald dX11_turn_41 rfl rfl (by omega) hlen ?_
    refine z_icmp_ge (tgt := 161) dX11_turn_42 (by decide) (fun c42 => ?_) (fun c42 => ?_)
    · have e0 : m = 0 := by
        rcases Nat.lt_or_ge v n with q | q
        · exact absurd c42 (nI_ge q (by omega))
        · omega
      subst e0
      have e1 : v = n := by omega
      subst e1
      refine z_aload_n dX11_turn_161 rfl rfl ?_
      refine z_dup dX11_turn_162 rfl ?_
      refine z_getI dX11_turn_163 fl_X11_157 rfl rfl rfl ?_
      refine z_aload_n dX11_turn_166 rfl rfl ?_
      refine z_getR dX11_turn_167 fl_X11_63 rfl rfl rfl ?_
      refine z_iload_n dX11_turn_170 rfl rfl ?_
      refine z_aload_n dX11_turn_171 rfl rfl ?_
      refine z_getR dX11_turn_172 fl_X11_54 rfl rfl rfl ?_
      refine z_iload_n dX11_turn_175 rfl rfl ?_
      refine z_iald dX11_turn_176 rfl rfl (by omega) (show _ = nI v from hlen) ?_
      refine z_iadd dX11_turn_177 (nI_add _ _) ?_
      refine z_iconst (v := 1) dX11_turn_178 (by decide) ?_
      refine z_isub dX11_turn_179 (show _ = nI (30 * t + v - 1) from (congrArg (· - 1) (congrArg nI (show 30 * t + v = 30 * t + v - 1 + 1 by omega))).trans (nI_pred _)) ?_
      refine z_iald dX11_turn_180 rfl rfl (by omega) rfl ?_
      refine z_iadd dX11_turn_181 rfl ?_
      refine z_putI dX11_turn_182 fl_X11_157 rfl rfl (Or.inl rfl) rfl ?_
      refine z_aload_n dX11_turn_185 rfl rfl ?_
      refine z_dup dX11_turn_186 rfl ?_
      refine z_getI dX11_turn_187 fl_X11_151 rfl rfl (show _ = σ 92 32 by simp [z_up]) ?_
      refine z_iconst (v := 1) dX11_turn_190 (by decide) ?_
      refine z_iadd dX11_turn_191 rfl ?_
      refine z_putI dX11_turn_192 fl_X11_151 rfl rfl (Or.inl rfl) rfl ?_
      refine z_aload_n dX11_turn_195 rfl rfl ?_
      refine z_iload_n dX11_turn_196 rfl rfl ?_
      refine z_putI dX11_turn_197 fl_X11_48 rfl rfl (Or.inl rfl) rfl ?_
      refine z_aload_n dX11_turn_200 rfl rfl ?_
      refine z_aload_n dX11_turn_201 rfl rfl ?_
      refine z_getR dX11_turn_202 fl_X11_51 rfl rfl rfl ?_
      refine z_iload_n dX11_turn_205 rfl rfl ?_
      refine z_iald dX11_turn_206 rfl rfl (by omega) (show _ = σ 103 t by simp [z_up]) ?_
      refine z_putI dX11_turn_207 fl_X11_19 rfl rfl (Or.inl rfl) rfl ?_
      exact z_vret dX11_turn_210 rfl rfl rfl
    · have hlt : v < n := by
        rcases Nat.lt_or_ge v n with q | q
        · exact q
        · exact absurd (nI_le q (by omega)) c42
      obtain ⟨m, rfl⟩ : ∃ k, m = k + 1 := ⟨m - 1, by omega⟩
      obtain ⟨k, hk40, hkk, hok, hif, hnext⟩ := hstep hlt
      have hk2 : tN (σ 105 (30 * t + v)) = k := by rw [hkk, tN_nI (by omega)]
      refine z_aload_n dX11_turn_45 rfl rfl ?_
      refine z_getR dX11_turn_46 fl_X11_57 rfl rfl rfl ?_
      refine z_iload_n dX11_turn_49 rfl rfl ?_
      refine z_iload_n dX11_turn_50 rfl rfl ?_
      refine z_iadd dX11_turn_51 (nI_add _ _) ?_
      refine z_iald dX11_turn_52 rfl rfl (by omega) hkk ?_
      refine z_istore dX11_turn_53 (by decide) ?_
      show z_V _ _ _ _ _ _ _ _ _ [_, _, _, _, _, _, _] _ _
      refine z_aload_n dX11_turn_55 rfl rfl ?_
      refine z_getR dX11_turn_56 fl_X11_7 rfl rfl rfl ?_
      refine z_iload dX11_turn_59 rfl ?_
      refine z_iald dX11_turn_61 rfl rfl (by omega) rfl ?_
      refine z_bipush (v := nI 14) dX11_turn_62 (by decide) ?_
      refine z_icmp_ne (tgt := 85) dX11_turn_64 (by decide) (fun c64 => ?_) (fun c64 => ?_)
      · refine z_iconst (v := 0) dX11_turn_85 (by decide) ?_
        refine z_istore dX11_turn_86 (by decide) ?_
        show z_V _ _ _ _ _ _ _ _ _ [_, _, _, _, _, _, _] _ _
        have hg : goesB σ k = 0 := b2i_f (fun z => c64 z.1)
        refine z_aload_n dX11_turn_88 rfl rfl ?_
        refine z_iload dX11_turn_89 rfl ?_
        refine z_cV1 dX11_turn_91 ml_X11_188 (sp_does hok) rfl ⟨by decide, rfl⟩ rfl rfl (Nat.le_of_ble_eq_true rfl) ?_
        refine z_istore dX11_turn_94 (by decide) ?_
        show z_V _ _ _ _ _ _ _ _ _ [_, _, _, _, _, _, _] _ _
        refine z_aload_n dX11_turn_96 rfl rfl ?_
        refine z_getR dX11_turn_97 fl_X11_7 rfl rfl rfl ?_
        refine z_iload dX11_turn_100 rfl ?_
        refine z_iald dX11_turn_102 rfl rfl (by omega) (show _ = σ 93 k from congrFun (dsS_ne (by decide)) k) ?_
        refine z_bipush (v := nI 14) dX11_turn_103 (by decide) ?_
        refine z_icmp_ne (tgt := 155) dX11_turn_105 (by decide) (fun _ => ?_) (fun c_ => absurd c_ (c64))
        refine z_iinc dX11_turn_155 rfl (nI_i _) (by decide) ?_
        show z_V _ _ _ _ _ _ _ _ _ [_, _, _, _, _, _, _] _ _
        refine z_goto (tgt := 35) dX11_turn_158 (by decide) ?_
        have hst : ¬ (σ 93 k = nI 14 ∧ ¬ goesB σ k = σ 106 (30 * t + v)) := by first | exact hst | exact fun z => c64 z.1
        have e1 : tnF t n (m + 1) v σ = tnF t n m (v + 1) (dsS σ k).2 := by simp only [tnF]; rw [hk2, if_neg hst]
        rw [e1]
        exact ih m (by omega) (v + 1) _ _ _ _ (hnext hst) (by omega)
      · obtain ⟨e, he8, he⟩ := hif c64
        refine z_aload_n dX11_turn_67 rfl rfl ?_
        refine z_getR dX11_turn_68 fl_X11_26 rfl rfl rfl ?_
        refine z_aload_n dX11_turn_71 rfl rfl ?_
        refine z_getI dX11_turn_72 fl_X11_139 rfl rfl he ?_
        refine z_iconst (v := 1) dX11_turn_75 (by decide) ?_
        refine z_isub dX11_turn_76 (nI_pred e) ?_
        refine z_iald dX11_turn_77 rfl rfl (by omega) rfl ?_
        refine z_if_eq (tgt := 85) dX11_turn_78 (by decide) (fun c78 => ?_) (fun c78 => ?_)
        · refine z_iconst (v := 0) dX11_turn_85 (by decide) ?_
          refine z_istore dX11_turn_86 (by decide) ?_
          show z_V _ _ _ _ _ _ _ _ _ [_, _, _, _, _, _, _] _ _
          have hg : goesB σ k = 0 := b2i_f (fun z => z.2 (by rw [he, tN_nI (by omega)]; exact c78))
          refine z_aload_n dX11_turn_88 rfl rfl ?_
          refine z_iload dX11_turn_89 rfl ?_
          refine z_cV1 dX11_turn_91 ml_X11_188 (sp_does hok) rfl ⟨by decide, rfl⟩ rfl rfl (Nat.le_of_ble_eq_true rfl) ?_
          refine z_istore dX11_turn_94 (by decide) ?_
          show z_V _ _ _ _ _ _ _ _ _ [_, _, _, _, _, _, _] _ _
          refine z_aload_n dX11_turn_96 rfl rfl ?_
          refine z_getR dX11_turn_97 fl_X11_7 rfl rfl rfl ?_
          refine z_iload dX11_turn_100 rfl ?_
          refine z_iald dX11_turn_102 rfl rfl (by omega) (show _ = σ 93 k from congrFun (dsS_ne (by decide)) k) ?_
          refine z_bipush (v := nI 14) dX11_turn_103 (by decide) ?_
          refine z_icmp_ne (tgt := 155) dX11_turn_105 (by decide) (fun c_ => absurd (c64) c_) (fun _ => ?_)
          refine z_iload dX11_turn_108 rfl ?_
          refine z_aload_n dX11_turn_110 rfl rfl ?_
          refine z_getR dX11_turn_111 fl_X11_60 rfl rfl rfl ?_
          refine z_iload_n dX11_turn_114 rfl rfl ?_
          refine z_iload_n dX11_turn_115 rfl rfl ?_
          refine z_iadd dX11_turn_116 (nI_add _ _) ?_
          refine z_zald dX11_turn_117 rfl rfl (by omega) (show _ = σ 106 (30 * t + v) from congrFun (dsS_ne (by decide)) _) ?_
          refine z_icmp_eq (tgt := 155) dX11_turn_118 (by decide) (fun c118 => ?_) (fun c118 => ?_)
          · have hst : ¬ (σ 93 k = nI 14 ∧ ¬ goesB σ k = σ 106 (30 * t + v)) := fun z => z.2 (hg.trans c118)
            refine z_iinc dX11_turn_155 rfl (nI_i _) (by decide) ?_
            show z_V _ _ _ _ _ _ _ _ _ [_, _, _, _, _, _, _] _ _
            refine z_goto (tgt := 35) dX11_turn_158 (by decide) ?_
            have hst : ¬ (σ 93 k = nI 14 ∧ ¬ goesB σ k = σ 106 (30 * t + v)) := by first | exact hst | exact fun z => c64 z.1
            have e1 : tnF t n (m + 1) v σ = tnF t n m (v + 1) (dsS σ k).2 := by simp only [tnF]; rw [hk2, if_neg hst]
            rw [e1]
            exact ih m (by omega) (v + 1) _ _ _ _ (hnext hst) (by omega)
          · have hlv : σ 93 k = nI 14 ∧ ¬ goesB σ k = σ 106 (30 * t + v) := ⟨c64, fun z => c118 (hg.symm.trans z)⟩
            have e1 : tnF t n (m + 1) v σ = tnL σ (30 * t + v) k := by simp only [tnF]; rw [hk2, if_pos hlv]
            rw [e1]
            refine z_aload_n dX11_turn_121 rfl rfl ?_
            refine z_dup dX11_turn_122 rfl ?_
            refine z_getI dX11_turn_123 fl_X11_157 rfl rfl (show _ = σ 92 34 from dsS_92 (by decide)) ?_
            refine z_aload_n dX11_turn_126 rfl rfl ?_
            refine z_getR dX11_turn_127 fl_X11_63 rfl rfl rfl ?_
            refine z_iload_n dX11_turn_130 rfl rfl ?_
            refine z_iload_n dX11_turn_131 rfl rfl ?_
            refine z_iadd dX11_turn_132 (nI_add _ _) ?_
            refine z_iald dX11_turn_133 rfl rfl (by omega) (show _ = σ 107 (30 * t + v) from congrFun (dsS_ne (by decide)) _) ?_
            refine z_iadd dX11_turn_134 rfl ?_
            refine z_putI dX11_turn_135 fl_X11_157 rfl rfl (Or.inl rfl) rfl ?_
            refine z_aload_n dX11_turn_138 rfl rfl ?_
            refine z_dup dX11_turn_139 rfl ?_
            refine z_getI dX11_turn_140 fl_X11_154 rfl rfl (show _ = σ 92 33 by simp [z_up, dsS_92]) ?_
            refine z_iconst (v := 1) dX11_turn_143 (by decide) ?_
            refine z_iadd dX11_turn_144 rfl ?_
            refine z_putI dX11_turn_145 fl_X11_154 rfl rfl (Or.inl rfl) rfl ?_
            refine z_aload_n dX11_turn_148 rfl rfl ?_
            refine z_iload dX11_turn_149 rfl ?_
            refine z_putI dX11_turn_151 fl_X11_19 rfl rfl (Or.inl rfl) rfl ?_
            exact z_vret dX11_turn_154 rfl rfl rfl
        · refine z_iconst (v := 1) dX11_turn_81 (by decide) ?_
          refine z_goto (tgt := 86) dX11_turn_82 (by decide) ?_
          refine z_istore dX11_turn_86 (by decide) ?_
          show z_V _ _ _ _ _ _ _ _ _ [_, _, _, _, _, _, _] _ _
          have hg : goesB σ k = 1 := b2i_t ⟨c64, by rw [he, tN_nI (by omega)]; exact c78⟩
          refine z_aload_n dX11_turn_88 rfl rfl ?_
          refine z_iload dX11_turn_89 rfl ?_
          refine z_cV1 dX11_turn_91 ml_X11_188 (sp_does hok) rfl ⟨by decide, rfl⟩ rfl rfl (Nat.le_of_ble_eq_true rfl) ?_
          refine z_istore dX11_turn_94 (by decide) ?_
          show z_V _ _ _ _ _ _ _ _ _ [_, _, _, _, _, _, _] _ _
          refine z_aload_n dX11_turn_96 rfl rfl ?_
          refine z_getR dX11_turn_97 fl_X11_7 rfl rfl rfl ?_
          refine z_iload dX11_turn_100 rfl ?_
          refine z_iald dX11_turn_102 rfl rfl (by omega) (show _ = σ 93 k from congrFun (dsS_ne (by decide)) k) ?_
          refine z_bipush (v := nI 14) dX11_turn_103 (by decide) ?_
          refine z_icmp_ne (tgt := 155) dX11_turn_105 (by decide) (fun c_ => absurd (c64) c_) (fun _ => ?_)
          refine z_iload dX11_turn_108 rfl ?_
          refine z_aload_n dX11_turn_110 rfl rfl ?_
          refine z_getR dX11_turn_111 fl_X11_60 rfl rfl rfl ?_
          refine z_iload_n dX11_turn_114 rfl rfl ?_
          refine z_iload_n dX11_turn_115 rfl rfl ?_
          refine z_iadd dX11_turn_116 (nI_add _ _) ?_
          refine z_zald dX11_turn_117 rfl rfl (by omega) (show _ = σ 106 (30 * t + v) from congrFun (dsS_ne (by decide)) _) ?_
          refine z_icmp_eq (tgt := 155) dX11_turn_118 (by decide) (fun c118 => ?_) (fun c118 => ?_)
          · have hst : ¬ (σ 93 k = nI 14 ∧ ¬ goesB σ k = σ 106 (30 * t + v)) := fun z => z.2 (hg.trans c118)
            refine z_iinc dX11_turn_155 rfl (nI_i _) (by decide) ?_
            show z_V _ _ _ _ _ _ _ _ _ [_, _, _, _, _, _, _] _ _
            refine z_goto (tgt := 35) dX11_turn_158 (by decide) ?_
            have hst : ¬ (σ 93 k = nI 14 ∧ ¬ goesB σ k = σ 106 (30 * t + v)) := by first | exact hst | exact fun z => c64 z.1
            have e1 : tnF t n (m + 1) v σ = tnF t n m (v + 1) (dsS σ k).2 := by simp only [tnF]; rw [hk2, if_neg hst]
            rw [e1]
            exact ih m (by omega) (v + 1) _ _ _ _ (hnext hst) (by omega)
          · have hlv : σ 93 k = nI 14 ∧ ¬ goesB σ k = σ 106 (30 * t + v) := ⟨c64, fun z => c118 (hg.symm.trans z)⟩
            have e1 : tnF t n (m + 1) v σ = tnL σ (30 * t + v) k := by simp only [tnF]; rw [hk2, if_pos hlv]
            rw [e1]
            refine z_aload_n dX11_turn_121 rfl rfl ?_
            refine z_dup dX11_turn_122 rfl ?_
            refine z_getI dX11_turn_123 fl_X11_157 rfl rfl (show _ = σ 92 34 from dsS_92 (by decide)) ?_
            refine z_aload_n dX11_turn_126 rfl rfl ?_
            refine z_getR dX11_turn_127 fl_X11_63 rfl rfl rfl ?_
            refine z_iload_n dX11_turn_130 rfl rfl ?_
            refine z_iload_n dX11_turn_131 rfl rfl ?_
            refine z_iadd dX11_turn_132 (nI_add _ _) ?_
            refine z_iald dX11_turn_133 rfl rfl (by omega) (show _ = σ 107 (30 * t + v) from congrFun (dsS_ne (by decide)) _) ?_
            refine z_iadd dX11_turn_134 rfl ?_
            refine z_putI dX11_turn_135 fl_X11_157 rfl rfl (Or.inl rfl) rfl ?_
            refine z_aload_n dX11_turn_138 rfl rfl ?_
            refine z_dup dX11_turn_139 rfl ?_
            refine z_getI dX11_turn_140 fl_X11_154 rfl rfl (show _ = σ 92 33 by simp [z_up, dsS_92]) ?_
            refine z_iconst (v := 1) dX11_turn_143 (by decide) ?_
            refine z_iadd dX11_turn_144 rfl ?_
            refine z_putI dX11_turn_145 fl_X11_154 rfl rfl (Or.inl rfl) rfl ?_
            refine z_aload_n dX11_turn_148 rfl rfl ?_
            refine z_iload dX11_turn_149 rfl ?_
            refine z_putI dX11_turn_151 fl_X11_19 rfl rfl (Or.inl rfl) rfl ?_
            exact z_vret dX11_turn_154 rfl rfl rfl
set_option maxRecDepth 100000 in
set_option maxHeartbeats 4000000 in
theorem sp_turn {d : Nat} {σ : Nat → Nat → Int32} {τ : Nat → Nat → Int64} {t n : Nat} (ht : t < 4) (hn0 : 0 < n) (hn30 : n ≤ 30) {I : Nat → (Nat → Nat → Int32) → Prop} (hI : tnI t n I) (hI0 : I 0 (tn0 σ t)) : z_MV M_X11_turn (d + 2) 0 0 [.ref 92, .int (nI t)] (124, z_r0, σ, τ) (none) (124, z_r0, tnF t n n 0 (tn0 σ t), τ) := by
  refine z_MV.of pn_X11_turn (Nat.le_of_ble_eq_true rfl) (by simp [Value.category]) rfl ?_
  show z_V _ _ _ _ _ _ _ _ _ [_, _, _, _, _, _, _] _ _
  refine z_bipush (v := nI 30) dX11_turn_0 (by decide) ?_
  refine z_iload_n dX11_turn_2 rfl rfl ?_
  refine z_imul dX11_turn_3 (pk_mul 30 t) ?_
  refine z_istore_n dX11_turn_4 rfl (by decide) ?_
  show z_V _ _ _ _ _ _ _ _ _ [_, _, _, _, _, _, _] _ _
  refine z_aload_n dX11_turn_5 rfl rfl ?_
  refine z_getI dX11_turn_6 fl_X11_48 rfl rfl rfl ?_
  refine z_iload_n dX11_turn_9 rfl rfl ?_
  refine z_icmp_eq (tgt := 28) dX11_turn_10 (by decide) (fun c10 => ?_) (fun c10 => ?_)
  · refine z_aload_n dX11_turn_28 rfl rfl ?_
    refine z_iconst (v := (-1)) dX11_turn_29 (by decide) ?_
    refine z_putI dX11_turn_30 fl_X11_48 rfl rfl (Or.inl rfl) rfl ?_
    refine z_iconst (v := 0) dX11_turn_33 (by decide) ?_
    refine z_istore_n dX11_turn_34 rfl (by decide) ?_
    show z_V _ _ _ _ _ _ _ _ _ [_, _, _, _, _, _, _] _ _
    refine z_Vx (σ' := tn0 σ t) (by simp [tn0, c10]) ?_
    exact turn_loop ht hn0 hn30 hI n 0 _ none none none hI0 (by omega)
  · refine z_aload_n dX11_turn_13 rfl rfl ?_
    refine z_dup dX11_turn_14 rfl ?_
    refine z_getI dX11_turn_15 fl_X11_157 rfl rfl rfl ?_
    refine z_aload_n dX11_turn_18 rfl rfl ?_
    refine z_getR dX11_turn_19 fl_X11_66 rfl rfl rfl ?_
    refine z_iload_n dX11_turn_22 rfl rfl ?_
    refine z_iald dX11_turn_23 rfl rfl (by omega) rfl ?_
    refine z_iadd dX11_turn_24 rfl ?_
    refine z_putI dX11_turn_25 fl_X11_157 rfl rfl (Or.inl rfl) rfl ?_
    refine z_aload_n dX11_turn_28 rfl rfl ?_
    refine z_iconst (v := (-1)) dX11_turn_29 (by decide) ?_
    refine z_putI dX11_turn_30 fl_X11_48 rfl rfl (Or.inl rfl) rfl ?_
    refine z_iconst (v := 0) dX11_turn_33 (by decide) ?_
    refine z_istore_n dX11_turn_34 rfl (by decide) ?_
    show z_V _ _ _ _ _ _ _ _ _ [_, _, _, _, _, _, _] _ _
    refine z_Vx (σ' := tn0 σ t) (by simp [tn0, c10]) ?_
    exact turn_loop ht hn0 hn30 hI n 0 _ none none none hI0 (by omega)
