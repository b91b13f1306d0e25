/-! PART 44: TraceTierModel.through, an operation at a time -/
def hg (σ : Nat → Nat → Int32) (e : Nat) : Nat → Nat → Int32 := z_up σ 92 44 (nI e)
theorem hg_ne {σ : Nat → Nat → Int32} {e b : Nat} (h : b ≠ 92) : hg σ e b = σ b := z_up_ne _ _ _ h
theorem hg_35 {σ : Nat → Nat → Int32} {e : Nat} : hg σ e 92 35 = σ 92 35 := z_up_o _ _ (Or.inr (by decide))
theorem vlS_ne {σ : Nat → Nat → Int32} {n b : Nat} {k w x y : Int32} (h : (b < 113 ∨ 119 < b) ∧ b ≠ 92) : vlS σ n k w x y b = σ b := by
  unfold vlS vlN
  split
  · rfl
  · rw [z_up_ne _ _ _ h.2, z_up_ne _ _ _ (by omega), z_up_ne _ _ _ (by omega), z_up_ne _ _ _ (by omega), z_up_ne _ _ _ (by omega), z_up_ne _ _ _ (by omega), z_up_ne _ _ _ (by omega), z_up_ne _ _ _ (by omega)]
theorem vlS_44 {σ : Nat → Nat → Int32} {n : Nat} {k w x y : Int32} : vlS σ n k w x y 92 44 = σ 92 44 := by
  unfold vlS vlN
  split
  · rfl
  · simp [z_up]
theorem cal_ne {σ : Nat → Nat → Int32} {n op a b c : Nat} (h : (c < 113 ∨ 119 < c) ∧ c ≠ 92) : (cal σ n op a b).2 c = σ c := by
  unfold cal
  split
  · exact vlS_ne h
  · exact vlS_ne h
theorem cal_44 {σ : Nat → Nat → Int32} {n op a b : Nat} : (cal σ n op a b).2 92 44 = σ 92 44 := by
  unfold cal
  split
  · exact vlS_44
  · exact vlS_44
set_option maxRecDepth 100000 in
set_option maxHeartbeats 4000000 in
theorem sp_th0 {d : Nat} {σ : Nat → Nat → Int32} {τ : Nat → Nat → Int64} {j k n e : Nat} (hj : j < 30) (hk0 : σ 101 j = nI k) (hk : k < 40) (hn : σ 92 35 = nI n) (h40 : n < 40) (hop : σ 93 k = nI 0) (he : σ 92 44 = nI e) (he8 : e + 1 ≤ 6) : z_MV M_X11_through (d + 2) 0 0 [.ref 92, .int (nI j)] (124, z_r0, σ, τ) (some (.int (0))) (124, z_r0, hg (z_up (vlS (hg σ e) n 0 (σ 94 k) 0 0) 121 e (nI (vlI (hg σ e) n 0 (σ 94 k) 0 0))) (e + 1), τ) := by
  refine z_MV.of pn_X11_through (Nat.le_of_ble_eq_true rfl) (by simp [Value.category]) rfl ?_
  show z_V _ _ _ _ _ _ _ _ _ [_, _, _, _, _, _, _, _] _ _
  refine z_aload_n dX11_through_0 rfl rfl ?_
  refine z_getR dX11_through_1 fl_X11_41 rfl rfl rfl ?_
  refine z_iload_n dX11_through_4 rfl rfl ?_
  refine z_iald dX11_through_5 rfl rfl (by omega) hk0 ?_
  refine z_istore_n dX11_through_6 rfl (by decide) ?_
  show z_V _ _ _ _ _ _ _ _ _ [_, _, _, _, _, _, _, _] _ _
  refine z_aload_n dX11_through_7 rfl rfl ?_
  refine z_getR dX11_through_8 fl_X11_7 rfl rfl rfl ?_
  refine z_iload_n dX11_through_11 rfl rfl ?_
  refine z_iald dX11_through_12 rfl rfl (by omega) hop ?_
  refine z_istore_n dX11_through_13 rfl (by decide) ?_
  show z_V _ _ _ _ _ _ _ _ _ [_, _, _, _, _, _, _, _] _ _
  refine z_aload_n dX11_through_14 rfl rfl ?_
  refine z_getI dX11_through_15 fl_X11_209 rfl rfl hn ?_
  refine z_istore dX11_through_18 (by decide) ?_
  show z_V _ _ _ _ _ _ _ _ _ [_, _, _, _, _, _, _, _] _ _
  refine z_iload_n dX11_through_20 rfl rfl ?_
  refine z_cS1 dX11_through_21 ml_X11_133 (sp_rtakes (by decide)) rfl rfl (Nat.le_of_ble_eq_true rfl) ?_
  refine z_if_le (tgt := 41) dX11_through_24 (by decide) (fun _ => ?_) (fun c_ => absurd (by decide +kernel) c_)
  refine z_iconst (v := 0) dX11_through_41 (by decide) ?_
  refine z_istore dX11_through_42 (by decide) ?_
  show z_V _ _ _ _ _ _ _ _ _ [_, _, _, _, _, _, _, _] _ _
  refine z_iload_n dX11_through_44 rfl rfl ?_
  refine z_cS1 dX11_through_45 ml_X11_133 (sp_rtakes (by decide)) rfl rfl (Nat.le_of_ble_eq_true rfl) ?_
  refine z_iconst (v := 1) dX11_through_48 (by decide) ?_
  refine z_icmp_le (tgt := 66) dX11_through_49 (by decide) (fun _ => ?_) (fun c_ => absurd (by decide +kernel) c_)
  refine z_iconst (v := 0) dX11_through_66 (by decide) ?_
  refine z_istore dX11_through_67 (by decide) ?_
  show z_V _ _ _ _ _ _ _ _ _ [_, _, _, _, _, _, _, _] _ _
  refine z_aload_n dX11_through_69 rfl rfl ?_
  refine z_dup dX11_through_70 rfl ?_
  refine z_getI dX11_through_71 fl_X11_216 rfl rfl he ?_
  refine z_iload_n dX11_through_74 rfl rfl ?_
  refine z_cS1 dX11_through_75 ml_X11_133 (sp_rtakes (by decide)) rfl rfl (Nat.le_of_ble_eq_true rfl) ?_
  refine z_isub dX11_through_78 (show _ = nI e from pk_sub (Nat.zero_le e)) ?_
  refine z_putI dX11_through_79 fl_X11_216 rfl rfl (Or.inl rfl) rfl ?_
  show z_V _ _ _ _ _ _ _ _ _ _ _ (124, z_r0, hg σ e, τ)
  refine z_iload_n dX11_through_82 rfl rfl ?_
  refine z_if_ne (tgt := 108) dX11_through_83 (by decide) (fun c_ => absurd (by decide +kernel) c_) (fun _ => ?_)
  refine z_aload_n dX11_through_86 rfl rfl ?_
  refine z_getR dX11_through_87 fl_X11_105 rfl rfl rfl ?_
  refine z_aload_n dX11_through_90 rfl rfl ?_
  refine z_getI dX11_through_91 fl_X11_216 rfl rfl (show _ = nI e by simp [hg, z_up]) ?_
  refine z_aload_n dX11_through_94 rfl rfl ?_
  refine z_iconst (v := 0) dX11_through_95 (by decide) ?_
  refine z_aload_n dX11_through_96 rfl rfl ?_
  refine z_getR dX11_through_97 fl_X11_13 rfl rfl rfl ?_
  refine z_iload_n dX11_through_100 rfl rfl ?_
  refine z_iald dX11_through_101 rfl rfl (by omega) (show _ = σ 94 k from congrFun (hg_ne (by decide)) k) ?_
  refine z_iconst (v := 0) dX11_through_102 (by decide) ?_
  refine z_iconst (v := 0) dX11_through_103 (by decide) ?_
  refine z_cV1 dX11_through_104 ml_X11_212 (sp_valueOf (show _ = nI n from hg_35.trans hn) h40) rfl ⟨by decide, rfl⟩ rfl rfl (Nat.le_of_ble_eq_true rfl) ?_
  refine z_iast dX11_through_107 rfl rfl (by omega) ?_
  refine z_iload_n dX11_through_108 rfl rfl ?_
  refine z_iconst (v := 1) dX11_through_109 (by decide) ?_
  refine z_icmp_ne (tgt := 133) dX11_through_110 (by decide) (fun _ => ?_) (fun c_ => absurd c_ (by decide +kernel))
  refine z_iload_n dX11_through_133 rfl rfl ?_
  refine z_iconst (v := nI 2) dX11_through_134 (by decide) ?_
  refine z_icmp_ne (tgt := 151) dX11_through_135 (by decide) (fun _ => ?_) (fun c_ => absurd c_ (by decide +kernel))
  refine z_iload_n dX11_through_151 rfl rfl ?_
  refine z_iconst (v := nI 3) dX11_through_152 (by decide) ?_
  refine z_bipush (v := nI 8) dX11_through_153 (by decide) ?_
  refine z_cS1 dX11_through_155 ml_X11_114 (sp_within) rfl rfl (Nat.le_of_ble_eq_true rfl) ?_
  refine z_if_eq (tgt := 179) dX11_through_158 (by decide) (fun _ => ?_) (fun c_ => absurd (by decide +kernel) c_)
  refine z_iload_n dX11_through_179 rfl rfl ?_
  refine z_bipush (v := nI 9) dX11_through_180 (by decide) ?_
  refine z_icmp_eq (tgt := 191) dX11_through_182 (by decide) (fun c_ => absurd c_ (by decide +kernel)) (fun _ => ?_)
  refine z_iload_n dX11_through_185 rfl rfl ?_
  refine z_bipush (v := nI 11) dX11_through_186 (by decide) ?_
  refine z_icmp_ne (tgt := 226) dX11_through_188 (by decide) (fun _ => ?_) (fun c_ => absurd c_ (by decide +kernel))
  refine z_aload_n dX11_through_226 rfl rfl ?_
  refine z_dup dX11_through_227 rfl ?_
  refine z_getI dX11_through_228 fl_X11_216 rfl rfl (show _ = nI e by rw [z_up_o _ _ (Or.inl (by decide)), vlS_44]; simp [hg, z_up]) ?_
  refine z_iload_n dX11_through_231 rfl rfl ?_
  refine z_cS1 dX11_through_232 ml_X11_136 (sp_rleaves (by decide)) rfl rfl (Nat.le_of_ble_eq_true rfl) ?_
  refine z_iadd dX11_through_235 (nI_add _ _) ?_
  refine z_putI dX11_through_236 fl_X11_216 rfl rfl (Or.inl rfl) rfl ?_
  refine z_aload_n dX11_through_239 rfl rfl ?_
  refine z_getR dX11_through_240 fl_X11_44 rfl rfl rfl ?_
  refine z_iload_n dX11_through_243 rfl rfl ?_
  refine z_zald dX11_through_244 rfl rfl (by omega) rfl ?_
  refine z_if_eq (tgt := 252) dX11_through_245 (by decide) (fun c245 => ?_) (fun c245 => ?_)
  · refine z_iconst (v := 1) dX11_through_252 (by decide) ?_
    refine z_istore dX11_through_253 (by decide) ?_
    show z_V _ _ _ _ _ _ _ _ _ [_, _, _, _, _, _, _, _] _ _
    refine z_iload_n dX11_through_255 rfl rfl ?_
    refine z_bipush (v := nI 14) dX11_through_256 (by decide) ?_
    refine z_icmp_ne (tgt := 310) dX11_through_258 (by decide) (fun _ => ?_) (fun c_ => absurd c_ (by decide +kernel))
    refine z_iload_n dX11_through_310 rfl rfl ?_
    refine z_bipush (v := nI 12) dX11_through_311 (by decide) ?_
    refine z_icmp_ne (tgt := 326) dX11_through_313 (by decide) (fun _ => ?_) (fun c_ => absurd c_ (by decide +kernel))
    refine z_iload_n dX11_through_326 rfl rfl ?_
    refine z_iconst (v := nI 3) dX11_through_327 (by decide) ?_
    refine z_bipush (v := nI 8) dX11_through_328 (by decide) ?_
    refine z_cS1 dX11_through_330 ml_X11_114 (sp_within) rfl rfl (Nat.le_of_ble_eq_true rfl) ?_
    refine z_if_eq (tgt := 372) dX11_through_333 (by decide) (fun _ => ?_) (fun c_ => absurd (by decide +kernel) c_)
    refine z_iconst (v := 0) dX11_through_372 (by decide) ?_
    exact z_iret dX11_through_373 rfl rfl rfl
  · refine z_iconst (v := nI 2) dX11_through_248 (by decide) ?_
    refine z_goto (tgt := 253) dX11_through_249 (by decide) ?_
    refine z_istore dX11_through_253 (by decide) ?_
    show z_V _ _ _ _ _ _ _ _ _ [_, _, _, _, _, _, _, _] _ _
    refine z_iload_n dX11_through_255 rfl rfl ?_
    refine z_bipush (v := nI 14) dX11_through_256 (by decide) ?_
    refine z_icmp_ne (tgt := 310) dX11_through_258 (by decide) (fun _ => ?_) (fun c_ => absurd c_ (by decide +kernel))
    refine z_iload_n dX11_through_310 rfl rfl ?_
    refine z_bipush (v := nI 12) dX11_through_311 (by decide) ?_
    refine z_icmp_ne (tgt := 326) dX11_through_313 (by decide) (fun _ => ?_) (fun c_ => absurd c_ (by decide +kernel))
    refine z_iload_n dX11_through_326 rfl rfl ?_
    refine z_iconst (v := nI 3) dX11_through_327 (by decide) ?_
    refine z_bipush (v := nI 8) dX11_through_328 (by decide) ?_
    refine z_cS1 dX11_through_330 ml_X11_114 (sp_within) rfl rfl (Nat.le_of_ble_eq_true rfl) ?_
    refine z_if_eq (tgt := 372) dX11_through_333 (by decide) (fun _ => ?_) (fun c_ => absurd (by decide +kernel) c_)
    refine z_iconst (v := 0) dX11_through_372 (by decide) ?_
    exact z_iret dX11_through_373 rfl rfl rfl
set_option maxRecDepth 100000 in
set_option maxHeartbeats 4000000 in
theorem sp_th1 {d : Nat} {σ : Nat → Nat → Int32} {τ : Nat → Nat → Int64} {j k n e : Nat} (hj : j < 30) (hk0 : σ 101 j = nI k) (hk : k < 40) (hn : σ 92 35 = nI n) (h40 : n < 40) (hop : σ 93 k = nI 1) (he : σ 92 44 = nI e) (he8 : e + 1 ≤ 6) {l : Nat} (hx : σ 94 k = nI l) (hl : l < 6) : z_MV M_X11_through (d + 2) 0 0 [.ref 92, .int (nI j)] (124, z_r0, σ, τ) (some (.int (0))) (124, z_r0, hg (z_up (hg σ e) 121 e (σ 120 l)) (e + 1), τ) := by
  refine z_MV.of pn_X11_through (Nat.le_of_ble_eq_true rfl) (by simp [Value.category]) rfl ?_
  show z_V _ _ _ _ _ _ _ _ _ [_, _, _, _, _, _, _, _] _ _
  refine z_aload_n dX11_through_0 rfl rfl ?_
  refine z_getR dX11_through_1 fl_X11_41 rfl rfl rfl ?_
  refine z_iload_n dX11_through_4 rfl rfl ?_
  refine z_iald dX11_through_5 rfl rfl (by omega) hk0 ?_
  refine z_istore_n dX11_through_6 rfl (by decide) ?_
  show z_V _ _ _ _ _ _ _ _ _ [_, _, _, _, _, _, _, _] _ _
  refine z_aload_n dX11_through_7 rfl rfl ?_
  refine z_getR dX11_through_8 fl_X11_7 rfl rfl rfl ?_
  refine z_iload_n dX11_through_11 rfl rfl ?_
  refine z_iald dX11_through_12 rfl rfl (by omega) hop ?_
  refine z_istore_n dX11_through_13 rfl (by decide) ?_
  show z_V _ _ _ _ _ _ _ _ _ [_, _, _, _, _, _, _, _] _ _
  refine z_aload_n dX11_through_14 rfl rfl ?_
  refine z_getI dX11_through_15 fl_X11_209 rfl rfl hn ?_
  refine z_istore dX11_through_18 (by decide) ?_
  show z_V _ _ _ _ _ _ _ _ _ [_, _, _, _, _, _, _, _] _ _
  refine z_iload_n dX11_through_20 rfl rfl ?_
  refine z_cS1 dX11_through_21 ml_X11_133 (sp_rtakes (by decide)) rfl rfl (Nat.le_of_ble_eq_true rfl) ?_
  refine z_if_le (tgt := 41) dX11_through_24 (by decide) (fun _ => ?_) (fun c_ => absurd (by decide +kernel) c_)
  refine z_iconst (v := 0) dX11_through_41 (by decide) ?_
  refine z_istore dX11_through_42 (by decide) ?_
  show z_V _ _ _ _ _ _ _ _ _ [_, _, _, _, _, _, _, _] _ _
  refine z_iload_n dX11_through_44 rfl rfl ?_
  refine z_cS1 dX11_through_45 ml_X11_133 (sp_rtakes (by decide)) rfl rfl (Nat.le_of_ble_eq_true rfl) ?_
  refine z_iconst (v := 1) dX11_through_48 (by decide) ?_
  refine z_icmp_le (tgt := 66) dX11_through_49 (by decide) (fun _ => ?_) (fun c_ => absurd (by decide +kernel) c_)
  refine z_iconst (v := 0) dX11_through_66 (by decide) ?_
  refine z_istore dX11_through_67 (by decide) ?_
  show z_V _ _ _ _ _ _ _ _ _ [_, _, _, _, _, _, _, _] _ _
  refine z_aload_n dX11_through_69 rfl rfl ?_
  refine z_dup dX11_through_70 rfl ?_
  refine z_getI dX11_through_71 fl_X11_216 rfl rfl he ?_
  refine z_iload_n dX11_through_74 rfl rfl ?_
  refine z_cS1 dX11_through_75 ml_X11_133 (sp_rtakes (by decide)) rfl rfl (Nat.le_of_ble_eq_true rfl) ?_
  refine z_isub dX11_through_78 (show _ = nI e from pk_sub (Nat.zero_le e)) ?_
  refine z_putI dX11_through_79 fl_X11_216 rfl rfl (Or.inl rfl) rfl ?_
  show z_V _ _ _ _ _ _ _ _ _ _ _ (124, z_r0, hg σ e, τ)
  refine z_iload_n dX11_through_82 rfl rfl ?_
  refine z_if_ne (tgt := 108) dX11_through_83 (by decide) (fun _ => ?_) (fun c_ => absurd c_ (by decide +kernel))
  refine z_iload_n dX11_through_108 rfl rfl ?_
  refine z_iconst (v := 1) dX11_through_109 (by decide) ?_
  refine z_icmp_ne (tgt := 133) dX11_through_110 (by decide) (fun c_ => absurd (by decide +kernel) c_) (fun _ => ?_)
  refine z_aload_n dX11_through_113 rfl rfl ?_
  refine z_getR dX11_through_114 fl_X11_105 rfl rfl rfl ?_
  refine z_aload_n dX11_through_117 rfl rfl ?_
  refine z_getI dX11_through_118 fl_X11_216 rfl rfl (show _ = nI e by simp [hg, z_up]) ?_
  refine z_aload_n dX11_through_121 rfl rfl ?_
  refine z_getR dX11_through_122 fl_X11_102 rfl rfl rfl ?_
  refine z_aload_n dX11_through_125 rfl rfl ?_
  refine z_getR dX11_through_126 fl_X11_13 rfl rfl rfl ?_
  refine z_iload_n dX11_through_129 rfl rfl ?_
  refine z_iald dX11_through_130 rfl rfl (by omega) (show _ = nI l from (congrFun (hg_ne (by decide)) k).trans hx) ?_
  refine z_iald dX11_through_131 rfl rfl (by omega) (show _ = σ 120 l from congrFun (hg_ne (by decide)) l) ?_
  refine z_iast dX11_through_132 rfl rfl (by omega) ?_
  refine z_iload_n dX11_through_133 rfl rfl ?_
  refine z_iconst (v := nI 2) dX11_through_134 (by decide) ?_
  refine z_icmp_ne (tgt := 151) dX11_through_135 (by decide) (fun _ => ?_) (fun c_ => absurd c_ (by decide +kernel))
  refine z_iload_n dX11_through_151 rfl rfl ?_
  refine z_iconst (v := nI 3) dX11_through_152 (by decide) ?_
  refine z_bipush (v := nI 8) dX11_through_153 (by decide) ?_
  refine z_cS1 dX11_through_155 ml_X11_114 (sp_within) rfl rfl (Nat.le_of_ble_eq_true rfl) ?_
  refine z_if_eq (tgt := 179) dX11_through_158 (by decide) (fun _ => ?_) (fun c_ => absurd (by decide +kernel) c_)
  refine z_iload_n dX11_through_179 rfl rfl ?_
  refine z_bipush (v := nI 9) dX11_through_180 (by decide) ?_
  refine z_icmp_eq (tgt := 191) dX11_through_182 (by decide) (fun c_ => absurd c_ (by decide +kernel)) (fun _ => ?_)
  refine z_iload_n dX11_through_185 rfl rfl ?_
  refine z_bipush (v := nI 11) dX11_through_186 (by decide) ?_
  refine z_icmp_ne (tgt := 226) dX11_through_188 (by decide) (fun _ => ?_) (fun c_ => absurd c_ (by decide +kernel))
  refine z_aload_n dX11_through_226 rfl rfl ?_
  refine z_dup dX11_through_227 rfl ?_
  refine z_getI dX11_through_228 fl_X11_216 rfl rfl (show _ = nI e by simp [hg, z_up]) ?_
  refine z_iload_n dX11_through_231 rfl rfl ?_
  refine z_cS1 dX11_through_232 ml_X11_136 (sp_rleaves (by decide)) rfl rfl (Nat.le_of_ble_eq_true rfl) ?_
  refine z_iadd dX11_through_235 (nI_add _ _) ?_
  refine z_putI dX11_through_236 fl_X11_216 rfl rfl (Or.inl rfl) rfl ?_
  refine z_aload_n dX11_through_239 rfl rfl ?_
  refine z_getR dX11_through_240 fl_X11_44 rfl rfl rfl ?_
  refine z_iload_n dX11_through_243 rfl rfl ?_
  refine z_zald dX11_through_244 rfl rfl (by omega) rfl ?_
  refine z_if_eq (tgt := 252) dX11_through_245 (by decide) (fun c245 => ?_) (fun c245 => ?_)
  · refine z_iconst (v := 1) dX11_through_252 (by decide) ?_
    refine z_istore dX11_through_253 (by decide) ?_
    show z_V _ _ _ _ _ _ _ _ _ [_, _, _, _, _, _, _, _] _ _
    refine z_iload_n dX11_through_255 rfl rfl ?_
    refine z_bipush (v := nI 14) dX11_through_256 (by decide) ?_
    refine z_icmp_ne (tgt := 310) dX11_through_258 (by decide) (fun _ => ?_) (fun c_ => absurd c_ (by decide +kernel))
    refine z_iload_n dX11_through_310 rfl rfl ?_
    refine z_bipush (v := nI 12) dX11_through_311 (by decide) ?_
    refine z_icmp_ne (tgt := 326) dX11_through_313 (by decide) (fun _ => ?_) (fun c_ => absurd c_ (by decide +kernel))
    refine z_iload_n dX11_through_326 rfl rfl ?_
    refine z_iconst (v := nI 3) dX11_through_327 (by decide) ?_
    refine z_bipush (v := nI 8) dX11_through_328 (by decide) ?_
    refine z_cS1 dX11_through_330 ml_X11_114 (sp_within) rfl rfl (Nat.le_of_ble_eq_true rfl) ?_
    refine z_if_eq (tgt := 372) dX11_through_333 (by decide) (fun _ => ?_) (fun c_ => absurd (by decide +kernel) c_)
    refine z_iconst (v := 0) dX11_through_372 (by decide) ?_
    exact z_iret dX11_through_373 rfl rfl rfl
  · refine z_iconst (v := nI 2) dX11_through_248 (by decide) ?_
    refine z_goto (tgt := 253) dX11_through_249 (by decide) ?_
    refine z_istore dX11_through_253 (by decide) ?_
    show z_V _ _ _ _ _ _ _ _ _ [_, _, _, _, _, _, _, _] _ _
    refine z_iload_n dX11_through_255 rfl rfl ?_
    refine z_bipush (v := nI 14) dX11_through_256 (by decide) ?_
    refine z_icmp_ne (tgt := 310) dX11_through_258 (by decide) (fun _ => ?_) (fun c_ => absurd c_ (by decide +kernel))
    refine z_iload_n dX11_through_310 rfl rfl ?_
    refine z_bipush (v := nI 12) dX11_through_311 (by decide) ?_
    refine z_icmp_ne (tgt := 326) dX11_through_313 (by decide) (fun _ => ?_) (fun c_ => absurd c_ (by decide +kernel))
    refine z_iload_n dX11_through_326 rfl rfl ?_
    refine z_iconst (v := nI 3) dX11_through_327 (by decide) ?_
    refine z_bipush (v := nI 8) dX11_through_328 (by decide) ?_
    refine z_cS1 dX11_through_330 ml_X11_114 (sp_within) rfl rfl (Nat.le_of_ble_eq_true rfl) ?_
    refine z_if_eq (tgt := 372) dX11_through_333 (by decide) (fun _ => ?_) (fun c_ => absurd (by decide +kernel) c_)
    refine z_iconst (v := 0) dX11_through_372 (by decide) ?_
    exact z_iret dX11_through_373 rfl rfl rfl
set_option maxRecDepth 100000 in
set_option maxHeartbeats 4000000 in
theorem sp_th2 {d : Nat} {σ : Nat → Nat → Int32} {τ : Nat → Nat → Int64} {j k n e : Nat} (hj : j < 30) (hk0 : σ 101 j = nI k) (hk : k < 40) (hn : σ 92 35 = nI n) (h40 : n < 40) (hop : σ 93 k = nI 2) (he : σ 92 44 = nI (e + 1)) (he8 : e + 1 ≤ 6) {b : Nat} (hb : σ 121 e = nI b) (hb40 : b < 40) {l : Nat} (hx : σ 94 k = nI l) (hl : l < 6) : z_MV M_X11_through (d + 2) 0 0 [.ref 92, .int (nI j)] (124, z_r0, σ, τ) (some (.int (0))) (124, z_r0, hg (z_up (hg σ e) 120 l (nI b)) (e + 0), τ) := by
  refine z_MV.of pn_X11_through (Nat.le_of_ble_eq_true rfl) (by simp [Value.category]) rfl ?_
  show z_V _ _ _ _ _ _ _ _ _ [_, _, _, _, _, _, _, _] _ _
  refine z_aload_n dX11_through_0 rfl rfl ?_
  refine z_getR dX11_through_1 fl_X11_41 rfl rfl rfl ?_
  refine z_iload_n dX11_through_4 rfl rfl ?_
  refine z_iald dX11_through_5 rfl rfl (by omega) hk0 ?_
  refine z_istore_n dX11_through_6 rfl (by decide) ?_
  show z_V _ _ _ _ _ _ _ _ _ [_, _, _, _, _, _, _, _] _ _
  refine z_aload_n dX11_through_7 rfl rfl ?_
  refine z_getR dX11_through_8 fl_X11_7 rfl rfl rfl ?_
  refine z_iload_n dX11_through_11 rfl rfl ?_
  refine z_iald dX11_through_12 rfl rfl (by omega) hop ?_
  refine z_istore_n dX11_through_13 rfl (by decide) ?_
  show z_V _ _ _ _ _ _ _ _ _ [_, _, _, _, _, _, _, _] _ _
  refine z_aload_n dX11_through_14 rfl rfl ?_
  refine z_getI dX11_through_15 fl_X11_209 rfl rfl hn ?_
  refine z_istore dX11_through_18 (by decide) ?_
  show z_V _ _ _ _ _ _ _ _ _ [_, _, _, _, _, _, _, _] _ _
  refine z_iload_n dX11_through_20 rfl rfl ?_
  refine z_cS1 dX11_through_21 ml_X11_133 (sp_rtakes (by decide)) rfl rfl (Nat.le_of_ble_eq_true rfl) ?_
  refine z_if_le (tgt := 41) dX11_through_24 (by decide) (fun c_ => absurd c_ (by decide +kernel)) (fun _ => ?_)
  refine z_aload_n dX11_through_27 rfl rfl ?_
  refine z_getR dX11_through_28 fl_X11_105 rfl rfl rfl ?_
  refine z_aload_n dX11_through_31 rfl rfl ?_
  refine z_getI dX11_through_32 fl_X11_216 rfl rfl he ?_
  refine z_iconst (v := 1) dX11_through_35 (by decide) ?_
  refine z_isub dX11_through_36 (nI_pred _) ?_
  refine z_iald dX11_through_37 rfl rfl (by omega) hb ?_
  refine z_goto (tgt := 42) dX11_through_38 (by decide) ?_
  refine z_istore dX11_through_42 (by decide) ?_
  show z_V _ _ _ _ _ _ _ _ _ [_, _, _, _, _, _, _, _] _ _
  refine z_iload_n dX11_through_44 rfl rfl ?_
  refine z_cS1 dX11_through_45 ml_X11_133 (sp_rtakes (by decide)) rfl rfl (Nat.le_of_ble_eq_true rfl) ?_
  refine z_iconst (v := 1) dX11_through_48 (by decide) ?_
  refine z_icmp_le (tgt := 66) dX11_through_49 (by decide) (fun _ => ?_) (fun c_ => absurd (by decide +kernel) c_)
  refine z_iconst (v := 0) dX11_through_66 (by decide) ?_
  refine z_istore dX11_through_67 (by decide) ?_
  show z_V _ _ _ _ _ _ _ _ _ [_, _, _, _, _, _, _, _] _ _
  refine z_aload_n dX11_through_69 rfl rfl ?_
  refine z_dup dX11_through_70 rfl ?_
  refine z_getI dX11_through_71 fl_X11_216 rfl rfl he ?_
  refine z_iload_n dX11_through_74 rfl rfl ?_
  refine z_cS1 dX11_through_75 ml_X11_133 (sp_rtakes (by decide)) rfl rfl (Nat.le_of_ble_eq_true rfl) ?_
  refine z_isub dX11_through_78 (show _ = nI e from pk_sub (Nat.le_add_left 1 e)) ?_
  refine z_putI dX11_through_79 fl_X11_216 rfl rfl (Or.inl rfl) rfl ?_
  show z_V _ _ _ _ _ _ _ _ _ _ _ (124, z_r0, hg σ e, τ)
  refine z_iload_n dX11_through_82 rfl rfl ?_
  refine z_if_ne (tgt := 108) dX11_through_83 (by decide) (fun _ => ?_) (fun c_ => absurd c_ (by decide +kernel))
  refine z_iload_n dX11_through_108 rfl rfl ?_
  refine z_iconst (v := 1) dX11_through_109 (by decide) ?_
  refine z_icmp_ne (tgt := 133) dX11_through_110 (by decide) (fun _ => ?_) (fun c_ => absurd c_ (by decide +kernel))
  refine z_iload_n dX11_through_133 rfl rfl ?_
  refine z_iconst (v := nI 2) dX11_through_134 (by decide) ?_
  refine z_icmp_ne (tgt := 151) dX11_through_135 (by decide) (fun c_ => absurd (by decide +kernel) c_) (fun _ => ?_)
  refine z_aload_n dX11_through_138 rfl rfl ?_
  refine z_getR dX11_through_139 fl_X11_102 rfl rfl rfl ?_
  refine z_aload_n dX11_through_142 rfl rfl ?_
  refine z_getR dX11_through_143 fl_X11_13 rfl rfl rfl ?_
  refine z_iload_n dX11_through_146 rfl rfl ?_
  refine z_iald dX11_through_147 rfl rfl (by omega) (show _ = nI l from (congrFun (hg_ne (by decide)) k).trans hx) ?_
  refine z_iload dX11_through_148 rfl ?_
  refine z_iast dX11_through_150 rfl rfl (by omega) ?_
  refine z_iload_n dX11_through_151 rfl rfl ?_
  refine z_iconst (v := nI 3) dX11_through_152 (by decide) ?_
  refine z_bipush (v := nI 8) dX11_through_153 (by decide) ?_
  refine z_cS1 dX11_through_155 ml_X11_114 (sp_within) rfl rfl (Nat.le_of_ble_eq_true rfl) ?_
  refine z_if_eq (tgt := 179) dX11_through_158 (by decide) (fun _ => ?_) (fun c_ => absurd (by decide +kernel) c_)
  refine z_iload_n dX11_through_179 rfl rfl ?_
  refine z_bipush (v := nI 9) dX11_through_180 (by decide) ?_
  refine z_icmp_eq (tgt := 191) dX11_through_182 (by decide) (fun c_ => absurd c_ (by decide +kernel)) (fun _ => ?_)
  refine z_iload_n dX11_through_185 rfl rfl ?_
  refine z_bipush (v := nI 11) dX11_through_186 (by decide) ?_
  refine z_icmp_ne (tgt := 226) dX11_through_188 (by decide) (fun _ => ?_) (fun c_ => absurd c_ (by decide +kernel))
  refine z_aload_n dX11_through_226 rfl rfl ?_
  refine z_dup dX11_through_227 rfl ?_
  refine z_getI dX11_through_228 fl_X11_216 rfl rfl (show _ = nI e by simp [hg, z_up]) ?_
  refine z_iload_n dX11_through_231 rfl rfl ?_
  refine z_cS1 dX11_through_232 ml_X11_136 (sp_rleaves (by decide)) rfl rfl (Nat.le_of_ble_eq_true rfl) ?_
  refine z_iadd dX11_through_235 (nI_add _ _) ?_
  refine z_putI dX11_through_236 fl_X11_216 rfl rfl (Or.inl rfl) rfl ?_
  refine z_aload_n dX11_through_239 rfl rfl ?_
  refine z_getR dX11_through_240 fl_X11_44 rfl rfl rfl ?_
  refine z_iload_n dX11_through_243 rfl rfl ?_
  refine z_zald dX11_through_244 rfl rfl (by omega) rfl ?_
  refine z_if_eq (tgt := 252) dX11_through_245 (by decide) (fun c245 => ?_) (fun c245 => ?_)
  · refine z_iconst (v := 1) dX11_through_252 (by decide) ?_
    refine z_istore dX11_through_253 (by decide) ?_
    show z_V _ _ _ _ _ _ _ _ _ [_, _, _, _, _, _, _, _] _ _
    refine z_iload_n dX11_through_255 rfl rfl ?_
    refine z_bipush (v := nI 14) dX11_through_256 (by decide) ?_
    refine z_icmp_ne (tgt := 310) dX11_through_258 (by decide) (fun _ => ?_) (fun c_ => absurd c_ (by decide +kernel))
    refine z_iload_n dX11_through_310 rfl rfl ?_
    refine z_bipush (v := nI 12) dX11_through_311 (by decide) ?_
    refine z_icmp_ne (tgt := 326) dX11_through_313 (by decide) (fun _ => ?_) (fun c_ => absurd c_ (by decide +kernel))
    refine z_iload_n dX11_through_326 rfl rfl ?_
    refine z_iconst (v := nI 3) dX11_through_327 (by decide) ?_
    refine z_bipush (v := nI 8) dX11_through_328 (by decide) ?_
    refine z_cS1 dX11_through_330 ml_X11_114 (sp_within) rfl rfl (Nat.le_of_ble_eq_true rfl) ?_
    refine z_if_eq (tgt := 372) dX11_through_333 (by decide) (fun _ => ?_) (fun c_ => absurd (by decide +kernel) c_)
    refine z_iconst (v := 0) dX11_through_372 (by decide) ?_
    exact z_iret dX11_through_373 rfl rfl rfl
  · refine z_iconst (v := nI 2) dX11_through_248 (by decide) ?_
    refine z_goto (tgt := 253) dX11_through_249 (by decide) ?_
    refine z_istore dX11_through_253 (by decide) ?_
    show z_V _ _ _ _ _ _ _ _ _ [_, _, _, _, _, _, _, _] _ _
    refine z_iload_n dX11_through_255 rfl rfl ?_
    refine z_bipush (v := nI 14) dX11_through_256 (by decide) ?_
    refine z_icmp_ne (tgt := 310) dX11_through_258 (by decide) (fun _ => ?_) (fun c_ => absurd c_ (by decide +kernel))
    refine z_iload_n dX11_through_310 rfl rfl ?_
    refine z_bipush (v := nI 12) dX11_through_311 (by decide) ?_
    refine z_icmp_ne (tgt := 326) dX11_through_313 (by decide) (fun _ => ?_) (fun c_ => absurd c_ (by decide +kernel))
    refine z_iload_n dX11_through_326 rfl rfl ?_
    refine z_iconst (v := nI 3) dX11_through_327 (by decide) ?_
    refine z_bipush (v := nI 8) dX11_through_328 (by decide) ?_
    refine z_cS1 dX11_through_330 ml_X11_114 (sp_within) rfl rfl (Nat.le_of_ble_eq_true rfl) ?_
    refine z_if_eq (tgt := 372) dX11_through_333 (by decide) (fun _ => ?_) (fun c_ => absurd (by decide +kernel) c_)
    refine z_iconst (v := 0) dX11_through_372 (by decide) ?_
    exact z_iret dX11_through_373 rfl rfl rfl
set_option maxRecDepth 100000 in
set_option maxHeartbeats 4000000 in
theorem sp_th9 {d : Nat} {σ : Nat → Nat → Int32} {τ : Nat → Nat → Int64} {j k n e : Nat} (hj : j < 30) (hk0 : σ 101 j = nI k) (hk : k < 40) (hn : σ 92 35 = nI n) (h40 : n < 40) (hop : σ 93 k = nI 9) (he : σ 92 44 = nI (e + 1)) (he8 : e + 2 ≤ 6) {b : Nat} (hb : σ 121 e = nI b) (hb40 : b < 40) : z_MV M_X11_through (d + 2) 0 0 [.ref 92, .int (nI j)] (124, z_r0, σ, τ) (some (.int (0))) (124, z_r0, hg (z_up (z_up (hg σ e) 121 e (nI b)) 121 (e + 1) (nI b)) (e + 2), τ) := by
  refine z_MV.of pn_X11_through (Nat.le_of_ble_eq_true rfl) (by simp [Value.category]) rfl ?_
  show z_V _ _ _ _ _ _ _ _ _ [_, _, _, _, _, _, _, _] _ _
  refine z_aload_n dX11_through_0 rfl rfl ?_
  refine z_getR dX11_through_1 fl_X11_41 rfl rfl rfl ?_
  refine z_iload_n dX11_through_4 rfl rfl ?_
  refine z_iald dX11_through_5 rfl rfl (by omega) hk0 ?_
  refine z_istore_n dX11_through_6 rfl (by decide) ?_
  show z_V _ _ _ _ _ _ _ _ _ [_, _, _, _, _, _, _, _] _ _
  refine z_aload_n dX11_through_7 rfl rfl ?_
  refine z_getR dX11_through_8 fl_X11_7 rfl rfl rfl ?_
  refine z_iload_n dX11_through_11 rfl rfl ?_
  refine z_iald dX11_through_12 rfl rfl (by omega) hop ?_
  refine z_istore_n dX11_through_13 rfl (by decide) ?_
  show z_V _ _ _ _ _ _ _ _ _ [_, _, _, _, _, _, _, _] _ _
  refine z_aload_n dX11_through_14 rfl rfl ?_
  refine z_getI dX11_through_15 fl_X11_209 rfl rfl hn ?_
  refine z_istore dX11_through_18 (by decide) ?_
  show z_V _ _ _ _ _ _ _ _ _ [_, _, _, _, _, _, _, _] _ _
  refine z_iload_n dX11_through_20 rfl rfl ?_
  refine z_cS1 dX11_through_21 ml_X11_133 (sp_rtakes (by decide)) rfl rfl (Nat.le_of_ble_eq_true rfl) ?_
  refine z_if_le (tgt := 41) dX11_through_24 (by decide) (fun c_ => absurd c_ (by decide +kernel)) (fun _ => ?_)
  refine z_aload_n dX11_through_27 rfl rfl ?_
  refine z_getR dX11_through_28 fl_X11_105 rfl rfl rfl ?_
  refine z_aload_n dX11_through_31 rfl rfl ?_
  refine z_getI dX11_through_32 fl_X11_216 rfl rfl he ?_
  refine z_iconst (v := 1) dX11_through_35 (by decide) ?_
  refine z_isub dX11_through_36 (nI_pred _) ?_
  refine z_iald dX11_through_37 rfl rfl (by omega) hb ?_
  refine z_goto (tgt := 42) dX11_through_38 (by decide) ?_
  refine z_istore dX11_through_42 (by decide) ?_
  show z_V _ _ _ _ _ _ _ _ _ [_, _, _, _, _, _, _, _] _ _
  refine z_iload_n dX11_through_44 rfl rfl ?_
  refine z_cS1 dX11_through_45 ml_X11_133 (sp_rtakes (by decide)) rfl rfl (Nat.le_of_ble_eq_true rfl) ?_
  refine z_iconst (v := 1) dX11_through_48 (by decide) ?_
  refine z_icmp_le (tgt := 66) dX11_through_49 (by decide) (fun _ => ?_) (fun c_ => absurd (by decide +kernel) c_)
  refine z_iconst (v := 0) dX11_through_66 (by decide) ?_
  refine z_istore dX11_through_67 (by decide) ?_
  show z_V _ _ _ _ _ _ _ _ _ [_, _, _, _, _, _, _, _] _ _
  refine z_aload_n dX11_through_69 rfl rfl ?_
  refine z_dup dX11_through_70 rfl ?_
  refine z_getI dX11_through_71 fl_X11_216 rfl rfl he ?_
  refine z_iload_n dX11_through_74 rfl rfl ?_
  refine z_cS1 dX11_through_75 ml_X11_133 (sp_rtakes (by decide)) rfl rfl (Nat.le_of_ble_eq_true rfl) ?_
  refine z_isub dX11_through_78 (show _ = nI e from pk_sub (Nat.le_add_left 1 e)) ?_
  refine z_putI dX11_through_79 fl_X11_216 rfl rfl (Or.inl rfl) rfl ?_
  show z_V _ _ _ _ _ _ _ _ _ _ _ (124, z_r0, hg σ e, τ)
  refine z_iload_n dX11_through_82 rfl rfl ?_
  refine z_if_ne (tgt := 108) dX11_through_83 (by decide) (fun _ => ?_) (fun c_ => absurd c_ (by decide +kernel))
  refine z_iload_n dX11_through_108 rfl rfl ?_
  refine z_iconst (v := 1) dX11_through_109 (by decide) ?_
  refine z_icmp_ne (tgt := 133) dX11_through_110 (by decide) (fun _ => ?_) (fun c_ => absurd c_ (by decide +kernel))
  refine z_iload_n dX11_through_133 rfl rfl ?_
  refine z_iconst (v := nI 2) dX11_through_134 (by decide) ?_
  refine z_icmp_ne (tgt := 151) dX11_through_135 (by decide) (fun _ => ?_) (fun c_ => absurd c_ (by decide +kernel))
  refine z_iload_n dX11_through_151 rfl rfl ?_
  refine z_iconst (v := nI 3) dX11_through_152 (by decide) ?_
  refine z_bipush (v := nI 8) dX11_through_153 (by decide) ?_
  refine z_cS1 dX11_through_155 ml_X11_114 (sp_within) rfl rfl (Nat.le_of_ble_eq_true rfl) ?_
  refine z_if_eq (tgt := 179) dX11_through_158 (by decide) (fun _ => ?_) (fun c_ => absurd (by decide +kernel) c_)
  refine z_iload_n dX11_through_179 rfl rfl ?_
  refine z_bipush (v := nI 9) dX11_through_180 (by decide) ?_
  refine z_icmp_eq (tgt := 191) dX11_through_182 (by decide) (fun _ => ?_) (fun c_ => absurd (by decide +kernel) c_)
  refine z_aload_n dX11_through_191 rfl rfl ?_
  refine z_getR dX11_through_192 fl_X11_105 rfl rfl rfl ?_
  refine z_aload_n dX11_through_195 rfl rfl ?_
  refine z_getI dX11_through_196 fl_X11_216 rfl rfl (show _ = nI e by simp [hg, z_up]) ?_
  refine z_iload dX11_through_199 rfl ?_
  refine z_iast dX11_through_201 rfl rfl (by omega) ?_
  refine z_aload_n dX11_through_202 rfl rfl ?_
  refine z_getR dX11_through_203 fl_X11_105 rfl rfl rfl ?_
  refine z_aload_n dX11_through_206 rfl rfl ?_
  refine z_getI dX11_through_207 fl_X11_216 rfl rfl (show _ = nI e by simp [hg, z_up]) ?_
  refine z_iconst (v := 1) dX11_through_210 (by decide) ?_
  refine z_iadd dX11_through_211 (nI_1 _) ?_
  refine z_iload_n dX11_through_212 rfl rfl ?_
  refine z_bipush (v := nI 9) dX11_through_213 (by decide) ?_
  refine z_icmp_ne (tgt := 223) dX11_through_215 (by decide) (fun c_ => absurd (by decide +kernel) c_) (fun _ => ?_)
  refine z_iload dX11_through_218 rfl ?_
  refine z_goto (tgt := 225) dX11_through_220 (by decide) ?_
  refine z_iast dX11_through_225 rfl rfl (by omega) ?_
  refine z_aload_n dX11_through_226 rfl rfl ?_
  refine z_dup dX11_through_227 rfl ?_
  refine z_getI dX11_through_228 fl_X11_216 rfl rfl (show _ = nI e by simp [hg, z_up]) ?_
  refine z_iload_n dX11_through_231 rfl rfl ?_
  refine z_cS1 dX11_through_232 ml_X11_136 (sp_rleaves (by decide)) rfl rfl (Nat.le_of_ble_eq_true rfl) ?_
  refine z_iadd dX11_through_235 (nI_add _ _) ?_
  refine z_putI dX11_through_236 fl_X11_216 rfl rfl (Or.inl rfl) rfl ?_
  refine z_aload_n dX11_through_239 rfl rfl ?_
  refine z_getR dX11_through_240 fl_X11_44 rfl rfl rfl ?_
  refine z_iload_n dX11_through_243 rfl rfl ?_
  refine z_zald dX11_through_244 rfl rfl (by omega) rfl ?_
  refine z_if_eq (tgt := 252) dX11_through_245 (by decide) (fun c245 => ?_) (fun c245 => ?_)
  · refine z_iconst (v := 1) dX11_through_252 (by decide) ?_
    refine z_istore dX11_through_253 (by decide) ?_
    show z_V _ _ _ _ _ _ _ _ _ [_, _, _, _, _, _, _, _] _ _
    refine z_iload_n dX11_through_255 rfl rfl ?_
    refine z_bipush (v := nI 14) dX11_through_256 (by decide) ?_
    refine z_icmp_ne (tgt := 310) dX11_through_258 (by decide) (fun _ => ?_) (fun c_ => absurd c_ (by decide +kernel))
    refine z_iload_n dX11_through_310 rfl rfl ?_
    refine z_bipush (v := nI 12) dX11_through_311 (by decide) ?_
    refine z_icmp_ne (tgt := 326) dX11_through_313 (by decide) (fun _ => ?_) (fun c_ => absurd c_ (by decide +kernel))
    refine z_iload_n dX11_through_326 rfl rfl ?_
    refine z_iconst (v := nI 3) dX11_through_327 (by decide) ?_
    refine z_bipush (v := nI 8) dX11_through_328 (by decide) ?_
    refine z_cS1 dX11_through_330 ml_X11_114 (sp_within) rfl rfl (Nat.le_of_ble_eq_true rfl) ?_
    refine z_if_eq (tgt := 372) dX11_through_333 (by decide) (fun _ => ?_) (fun c_ => absurd (by decide +kernel) c_)
    refine z_iconst (v := 0) dX11_through_372 (by decide) ?_
    exact z_iret dX11_through_373 rfl rfl rfl
  · refine z_iconst (v := nI 2) dX11_through_248 (by decide) ?_
    refine z_goto (tgt := 253) dX11_through_249 (by decide) ?_
    refine z_istore dX11_through_253 (by decide) ?_
    show z_V _ _ _ _ _ _ _ _ _ [_, _, _, _, _, _, _, _] _ _
    refine z_iload_n dX11_through_255 rfl rfl ?_
    refine z_bipush (v := nI 14) dX11_through_256 (by decide) ?_
    refine z_icmp_ne (tgt := 310) dX11_through_258 (by decide) (fun _ => ?_) (fun c_ => absurd c_ (by decide +kernel))
    refine z_iload_n dX11_through_310 rfl rfl ?_
    refine z_bipush (v := nI 12) dX11_through_311 (by decide) ?_
    refine z_icmp_ne (tgt := 326) dX11_through_313 (by decide) (fun _ => ?_) (fun c_ => absurd c_ (by decide +kernel))
    refine z_iload_n dX11_through_326 rfl rfl ?_
    refine z_iconst (v := nI 3) dX11_through_327 (by decide) ?_
    refine z_bipush (v := nI 8) dX11_through_328 (by decide) ?_
    refine z_cS1 dX11_through_330 ml_X11_114 (sp_within) rfl rfl (Nat.le_of_ble_eq_true rfl) ?_
    refine z_if_eq (tgt := 372) dX11_through_333 (by decide) (fun _ => ?_) (fun c_ => absurd (by decide +kernel) c_)
    refine z_iconst (v := 0) dX11_through_372 (by decide) ?_
    exact z_iret dX11_through_373 rfl rfl rfl
set_option maxRecDepth 100000 in
set_option maxHeartbeats 4000000 in
theorem sp_th10 {d : Nat} {σ : Nat → Nat → Int32} {τ : Nat → Nat → Int64} {j k n e : Nat} (hj : j < 30) (hk0 : σ 101 j = nI k) (hk : k < 40) (hn : σ 92 35 = nI n) (h40 : n < 40) (hop : σ 93 k = nI 10) (he : σ 92 44 = nI (e + 1)) (he8 : e + 1 ≤ 6) {b : Nat} (hb : σ 121 e = nI b) (hb40 : b < 40) : z_MV M_X11_through (d + 2) 0 0 [.ref 92, .int (nI j)] (124, z_r0, σ, τ) (some (.int (0))) (124, z_r0, hg (hg σ e) (e + 0), τ) := by
  refine z_MV.of pn_X11_through (Nat.le_of_ble_eq_true rfl) (by simp [Value.category]) rfl ?_
  show z_V _ _ _ _ _ _ _ _ _ [_, _, _, _, _, _, _, _] _ _
  refine z_aload_n dX11_through_0 rfl rfl ?_
  refine z_getR dX11_through_1 fl_X11_41 rfl rfl rfl ?_
  refine z_iload_n dX11_through_4 rfl rfl ?_
  refine z_iald dX11_through_5 rfl rfl (by omega) hk0 ?_
  refine z_istore_n dX11_through_6 rfl (by decide) ?_
  show z_V _ _ _ _ _ _ _ _ _ [_, _, _, _, _, _, _, _] _ _
  refine z_aload_n dX11_through_7 rfl rfl ?_
  refine z_getR dX11_through_8 fl_X11_7 rfl rfl rfl ?_
  refine z_iload_n dX11_through_11 rfl rfl ?_
  refine z_iald dX11_through_12 rfl rfl (by omega) hop ?_
  refine z_istore_n dX11_through_13 rfl (by decide) ?_
  show z_V _ _ _ _ _ _ _ _ _ [_, _, _, _, _, _, _, _] _ _
  refine z_aload_n dX11_through_14 rfl rfl ?_
  refine z_getI dX11_through_15 fl_X11_209 rfl rfl hn ?_
  refine z_istore dX11_through_18 (by decide) ?_
  show z_V _ _ _ _ _ _ _ _ _ [_, _, _, _, _, _, _, _] _ _
  refine z_iload_n dX11_through_20 rfl rfl ?_
  refine z_cS1 dX11_through_21 ml_X11_133 (sp_rtakes (by decide)) rfl rfl (Nat.le_of_ble_eq_true rfl) ?_
  refine z_if_le (tgt := 41) dX11_through_24 (by decide) (fun c_ => absurd c_ (by decide +kernel)) (fun _ => ?_)
  refine z_aload_n dX11_through_27 rfl rfl ?_
  refine z_getR dX11_through_28 fl_X11_105 rfl rfl rfl ?_
  refine z_aload_n dX11_through_31 rfl rfl ?_
  refine z_getI dX11_through_32 fl_X11_216 rfl rfl he ?_
  refine z_iconst (v := 1) dX11_through_35 (by decide) ?_
  refine z_isub dX11_through_36 (nI_pred _) ?_
  refine z_iald dX11_through_37 rfl rfl (by omega) hb ?_
  refine z_goto (tgt := 42) dX11_through_38 (by decide) ?_
  refine z_istore dX11_through_42 (by decide) ?_
  show z_V _ _ _ _ _ _ _ _ _ [_, _, _, _, _, _, _, _] _ _
  refine z_iload_n dX11_through_44 rfl rfl ?_
  refine z_cS1 dX11_through_45 ml_X11_133 (sp_rtakes (by decide)) rfl rfl (Nat.le_of_ble_eq_true rfl) ?_
  refine z_iconst (v := 1) dX11_through_48 (by decide) ?_
  refine z_icmp_le (tgt := 66) dX11_through_49 (by decide) (fun _ => ?_) (fun c_ => absurd (by decide +kernel) c_)
  refine z_iconst (v := 0) dX11_through_66 (by decide) ?_
  refine z_istore dX11_through_67 (by decide) ?_
  show z_V _ _ _ _ _ _ _ _ _ [_, _, _, _, _, _, _, _] _ _
  refine z_aload_n dX11_through_69 rfl rfl ?_
  refine z_dup dX11_through_70 rfl ?_
  refine z_getI dX11_through_71 fl_X11_216 rfl rfl he ?_
  refine z_iload_n dX11_through_74 rfl rfl ?_
  refine z_cS1 dX11_through_75 ml_X11_133 (sp_rtakes (by decide)) rfl rfl (Nat.le_of_ble_eq_true rfl) ?_
  refine z_isub dX11_through_78 (show _ = nI e from pk_sub (Nat.le_add_left 1 e)) ?_
  refine z_putI dX11_through_79 fl_X11_216 rfl rfl (Or.inl rfl) rfl ?_
  show z_V _ _ _ _ _ _ _ _ _ _ _ (124, z_r0, hg σ e, τ)
  refine z_iload_n dX11_through_82 rfl rfl ?_
  refine z_if_ne (tgt := 108) dX11_through_83 (by decide) (fun _ => ?_) (fun c_ => absurd c_ (by decide +kernel))
  refine z_iload_n dX11_through_108 rfl rfl ?_
  refine z_iconst (v := 1) dX11_through_109 (by decide) ?_
  refine z_icmp_ne (tgt := 133) dX11_through_110 (by decide) (fun _ => ?_) (fun c_ => absurd c_ (by decide +kernel))
  refine z_iload_n dX11_through_133 rfl rfl ?_
  refine z_iconst (v := nI 2) dX11_through_134 (by decide) ?_
  refine z_icmp_ne (tgt := 151) dX11_through_135 (by decide) (fun _ => ?_) (fun c_ => absurd c_ (by decide +kernel))
  refine z_iload_n dX11_through_151 rfl rfl ?_
  refine z_iconst (v := nI 3) dX11_through_152 (by decide) ?_
  refine z_bipush (v := nI 8) dX11_through_153 (by decide) ?_
  refine z_cS1 dX11_through_155 ml_X11_114 (sp_within) rfl rfl (Nat.le_of_ble_eq_true rfl) ?_
  refine z_if_eq (tgt := 179) dX11_through_158 (by decide) (fun _ => ?_) (fun c_ => absurd (by decide +kernel) c_)
  refine z_iload_n dX11_through_179 rfl rfl ?_
  refine z_bipush (v := nI 9) dX11_through_180 (by decide) ?_
  refine z_icmp_eq (tgt := 191) dX11_through_182 (by decide) (fun c_ => absurd c_ (by decide +kernel)) (fun _ => ?_)
  refine z_iload_n dX11_through_185 rfl rfl ?_
  refine z_bipush (v := nI 11) dX11_through_186 (by decide) ?_
  refine z_icmp_ne (tgt := 226) dX11_through_188 (by decide) (fun _ => ?_) (fun c_ => absurd c_ (by decide +kernel))
  refine z_aload_n dX11_through_226 rfl rfl ?_
  refine z_dup dX11_through_227 rfl ?_
  refine z_getI dX11_through_228 fl_X11_216 rfl rfl (show _ = nI e by simp [hg, z_up]) ?_
  refine z_iload_n dX11_through_231 rfl rfl ?_
  refine z_cS1 dX11_through_232 ml_X11_136 (sp_rleaves (by decide)) rfl rfl (Nat.le_of_ble_eq_true rfl) ?_
  refine z_iadd dX11_through_235 (nI_add _ _) ?_
  refine z_putI dX11_through_236 fl_X11_216 rfl rfl (Or.inl rfl) rfl ?_
  refine z_aload_n dX11_through_239 rfl rfl ?_
  refine z_getR dX11_through_240 fl_X11_44 rfl rfl rfl ?_
  refine z_iload_n dX11_through_243 rfl rfl ?_
  refine z_zald dX11_through_244 rfl rfl (by omega) rfl ?_
  refine z_if_eq (tgt := 252) dX11_through_245 (by decide) (fun c245 => ?_) (fun c245 => ?_)
  · refine z_iconst (v := 1) dX11_through_252 (by decide) ?_
    refine z_istore dX11_through_253 (by decide) ?_
    show z_V _ _ _ _ _ _ _ _ _ [_, _, _, _, _, _, _, _] _ _
    refine z_iload_n dX11_through_255 rfl rfl ?_
    refine z_bipush (v := nI 14) dX11_through_256 (by decide) ?_
    refine z_icmp_ne (tgt := 310) dX11_through_258 (by decide) (fun _ => ?_) (fun c_ => absurd c_ (by decide +kernel))
    refine z_iload_n dX11_through_310 rfl rfl ?_
    refine z_bipush (v := nI 12) dX11_through_311 (by decide) ?_
    refine z_icmp_ne (tgt := 326) dX11_through_313 (by decide) (fun _ => ?_) (fun c_ => absurd c_ (by decide +kernel))
    refine z_iload_n dX11_through_326 rfl rfl ?_
    refine z_iconst (v := nI 3) dX11_through_327 (by decide) ?_
    refine z_bipush (v := nI 8) dX11_through_328 (by decide) ?_
    refine z_cS1 dX11_through_330 ml_X11_114 (sp_within) rfl rfl (Nat.le_of_ble_eq_true rfl) ?_
    refine z_if_eq (tgt := 372) dX11_through_333 (by decide) (fun _ => ?_) (fun c_ => absurd (by decide +kernel) c_)
    refine z_iconst (v := 0) dX11_through_372 (by decide) ?_
    exact z_iret dX11_through_373 rfl rfl rfl
  · refine z_iconst (v := nI 2) dX11_through_248 (by decide) ?_
    refine z_goto (tgt := 253) dX11_through_249 (by decide) ?_
    refine z_istore dX11_through_253 (by decide) ?_
    show z_V _ _ _ _ _ _ _ _ _ [_, _, _, _, _, _, _, _] _ _
    refine z_iload_n dX11_through_255 rfl rfl ?_
    refine z_bipush (v := nI 14) dX11_through_256 (by decide) ?_
    refine z_icmp_ne (tgt := 310) dX11_through_258 (by decide) (fun _ => ?_) (fun c_ => absurd c_ (by decide +kernel))
    refine z_iload_n dX11_through_310 rfl rfl ?_
    refine z_bipush (v := nI 12) dX11_through_311 (by decide) ?_
    refine z_icmp_ne (tgt := 326) dX11_through_313 (by decide) (fun _ => ?_) (fun c_ => absurd c_ (by decide +kernel))
    refine z_iload_n dX11_through_326 rfl rfl ?_
    refine z_iconst (v := nI 3) dX11_through_327 (by decide) ?_
    refine z_bipush (v := nI 8) dX11_through_328 (by decide) ?_
    refine z_cS1 dX11_through_330 ml_X11_114 (sp_within) rfl rfl (Nat.le_of_ble_eq_true rfl) ?_
    refine z_if_eq (tgt := 372) dX11_through_333 (by decide) (fun _ => ?_) (fun c_ => absurd (by decide +kernel) c_)
    refine z_iconst (v := 0) dX11_through_372 (by decide) ?_
    exact z_iret dX11_through_373 rfl rfl rfl
set_option maxRecDepth 100000 in
set_option maxHeartbeats 4000000 in
theorem sp_th11 {d : Nat} {σ : Nat → Nat → Int32} {τ : Nat → Nat → Int64} {j k n e : Nat} (hj : j < 30) (hk0 : σ 101 j = nI k) (hk : k < 40) (hn : σ 92 35 = nI n) (h40 : n < 40) (hop : σ 93 k = nI 11) (he : σ 92 44 = nI (e + 2)) (he8 : e + 2 ≤ 6) {b : Nat} (hb : σ 121 (e + 1) = nI b) (hb40 : b < 40) {a : Nat} (ha : σ 121 e = nI a) (ha40 : a < 40) : z_MV M_X11_through (d + 2) 0 0 [.ref 92, .int (nI j)] (124, z_r0, σ, τ) (some (.int (0))) (124, z_r0, hg (z_up (z_up (hg σ e) 121 e (nI b)) 121 (e + 1) (nI a)) (e + 2), τ) := by
  refine z_MV.of pn_X11_through (Nat.le_of_ble_eq_true rfl) (by simp [Value.category]) rfl ?_
  show z_V _ _ _ _ _ _ _ _ _ [_, _, _, _, _, _, _, _] _ _
  refine z_aload_n dX11_through_0 rfl rfl ?_
  refine z_getR dX11_through_1 fl_X11_41 rfl rfl rfl ?_
  refine z_iload_n dX11_through_4 rfl rfl ?_
  refine z_iald dX11_through_5 rfl rfl (by omega) hk0 ?_
  refine z_istore_n dX11_through_6 rfl (by decide) ?_
  show z_V _ _ _ _ _ _ _ _ _ [_, _, _, _, _, _, _, _] _ _
  refine z_aload_n dX11_through_7 rfl rfl ?_
  refine z_getR dX11_through_8 fl_X11_7 rfl rfl rfl ?_
  refine z_iload_n dX11_through_11 rfl rfl ?_
  refine z_iald dX11_through_12 rfl rfl (by omega) hop ?_
  refine z_istore_n dX11_through_13 rfl (by decide) ?_
  show z_V _ _ _ _ _ _ _ _ _ [_, _, _, _, _, _, _, _] _ _
  refine z_aload_n dX11_through_14 rfl rfl ?_
  refine z_getI dX11_through_15 fl_X11_209 rfl rfl hn ?_
  refine z_istore dX11_through_18 (by decide) ?_
  show z_V _ _ _ _ _ _ _ _ _ [_, _, _, _, _, _, _, _] _ _
  refine z_iload_n dX11_through_20 rfl rfl ?_
  refine z_cS1 dX11_through_21 ml_X11_133 (sp_rtakes (by decide)) rfl rfl (Nat.le_of_ble_eq_true rfl) ?_
  refine z_if_le (tgt := 41) dX11_through_24 (by decide) (fun c_ => absurd c_ (by decide +kernel)) (fun _ => ?_)
  refine z_aload_n dX11_through_27 rfl rfl ?_
  refine z_getR dX11_through_28 fl_X11_105 rfl rfl rfl ?_
  refine z_aload_n dX11_through_31 rfl rfl ?_
  refine z_getI dX11_through_32 fl_X11_216 rfl rfl he ?_
  refine z_iconst (v := 1) dX11_through_35 (by decide) ?_
  refine z_isub dX11_through_36 (nI_pred _) ?_
  refine z_iald dX11_through_37 rfl rfl (by omega) hb ?_
  refine z_goto (tgt := 42) dX11_through_38 (by decide) ?_
  refine z_istore dX11_through_42 (by decide) ?_
  show z_V _ _ _ _ _ _ _ _ _ [_, _, _, _, _, _, _, _] _ _
  refine z_iload_n dX11_through_44 rfl rfl ?_
  refine z_cS1 dX11_through_45 ml_X11_133 (sp_rtakes (by decide)) rfl rfl (Nat.le_of_ble_eq_true rfl) ?_
  refine z_iconst (v := 1) dX11_through_48 (by decide) ?_
  refine z_icmp_le (tgt := 66) dX11_through_49 (by decide) (fun c_ => absurd c_ (by decide +kernel)) (fun _ => ?_)
  refine z_aload_n dX11_through_52 rfl rfl ?_
  refine z_getR dX11_through_53 fl_X11_105 rfl rfl rfl ?_
  refine z_aload_n dX11_through_56 rfl rfl ?_
  refine z_getI dX11_through_57 fl_X11_216 rfl rfl he ?_
  refine z_iconst (v := nI 2) dX11_through_60 (by decide) ?_
  refine z_isub dX11_through_61 (show _ = nI e from pk_sub (Nat.le_add_left 2 e)) ?_
  refine z_iald dX11_through_62 rfl rfl (by omega) ha ?_
  refine z_goto (tgt := 67) dX11_through_63 (by decide) ?_
  refine z_istore dX11_through_67 (by decide) ?_
  show z_V _ _ _ _ _ _ _ _ _ [_, _, _, _, _, _, _, _] _ _
  refine z_aload_n dX11_through_69 rfl rfl ?_
  refine z_dup dX11_through_70 rfl ?_
  refine z_getI dX11_through_71 fl_X11_216 rfl rfl he ?_
  refine z_iload_n dX11_through_74 rfl rfl ?_
  refine z_cS1 dX11_through_75 ml_X11_133 (sp_rtakes (by decide)) rfl rfl (Nat.le_of_ble_eq_true rfl) ?_
  refine z_isub dX11_through_78 (show _ = nI e from pk_sub (Nat.le_add_left 2 e)) ?_
  refine z_putI dX11_through_79 fl_X11_216 rfl rfl (Or.inl rfl) rfl ?_
  show z_V _ _ _ _ _ _ _ _ _ _ _ (124, z_r0, hg σ e, τ)
  refine z_iload_n dX11_through_82 rfl rfl ?_
  refine z_if_ne (tgt := 108) dX11_through_83 (by decide) (fun _ => ?_) (fun c_ => absurd c_ (by decide +kernel))
  refine z_iload_n dX11_through_108 rfl rfl ?_
  refine z_iconst (v := 1) dX11_through_109 (by decide) ?_
  refine z_icmp_ne (tgt := 133) dX11_through_110 (by decide) (fun _ => ?_) (fun c_ => absurd c_ (by decide +kernel))
  refine z_iload_n dX11_through_133 rfl rfl ?_
  refine z_iconst (v := nI 2) dX11_through_134 (by decide) ?_
  refine z_icmp_ne (tgt := 151) dX11_through_135 (by decide) (fun _ => ?_) (fun c_ => absurd c_ (by decide +kernel))
  refine z_iload_n dX11_through_151 rfl rfl ?_
  refine z_iconst (v := nI 3) dX11_through_152 (by decide) ?_
  refine z_bipush (v := nI 8) dX11_through_153 (by decide) ?_
  refine z_cS1 dX11_through_155 ml_X11_114 (sp_within) rfl rfl (Nat.le_of_ble_eq_true rfl) ?_
  refine z_if_eq (tgt := 179) dX11_through_158 (by decide) (fun _ => ?_) (fun c_ => absurd (by decide +kernel) c_)
  refine z_iload_n dX11_through_179 rfl rfl ?_
  refine z_bipush (v := nI 9) dX11_through_180 (by decide) ?_
  refine z_icmp_eq (tgt := 191) dX11_through_182 (by decide) (fun c_ => absurd c_ (by decide +kernel)) (fun _ => ?_)
  refine z_iload_n dX11_through_185 rfl rfl ?_
  refine z_bipush (v := nI 11) dX11_through_186 (by decide) ?_
  refine z_icmp_ne (tgt := 226) dX11_through_188 (by decide) (fun c_ => absurd (by decide +kernel) c_) (fun _ => ?_)
  refine z_aload_n dX11_through_191 rfl rfl ?_
  refine z_getR dX11_through_192 fl_X11_105 rfl rfl rfl ?_
  refine z_aload_n dX11_through_195 rfl rfl ?_
  refine z_getI dX11_through_196 fl_X11_216 rfl rfl (show _ = nI e by simp [hg, z_up]) ?_
  refine z_iload dX11_through_199 rfl ?_
  refine z_iast dX11_through_201 rfl rfl (by omega) ?_
  refine z_aload_n dX11_through_202 rfl rfl ?_
  refine z_getR dX11_through_203 fl_X11_105 rfl rfl rfl ?_
  refine z_aload_n dX11_through_206 rfl rfl ?_
  refine z_getI dX11_through_207 fl_X11_216 rfl rfl (show _ = nI e by simp [hg, z_up]) ?_
  refine z_iconst (v := 1) dX11_through_210 (by decide) ?_
  refine z_iadd dX11_through_211 (nI_1 _) ?_
  refine z_iload_n dX11_through_212 rfl rfl ?_
  refine z_bipush (v := nI 9) dX11_through_213 (by decide) ?_
  refine z_icmp_ne (tgt := 223) dX11_through_215 (by decide) (fun _ => ?_) (fun c_ => absurd c_ (by decide +kernel))
  refine z_iload dX11_through_223 rfl ?_
  refine z_iast dX11_through_225 rfl rfl (by omega) ?_
  refine z_aload_n dX11_through_226 rfl rfl ?_
  refine z_dup dX11_through_227 rfl ?_
  refine z_getI dX11_through_228 fl_X11_216 rfl rfl (show _ = nI e by simp [hg, z_up]) ?_
  refine z_iload_n dX11_through_231 rfl rfl ?_
  refine z_cS1 dX11_through_232 ml_X11_136 (sp_rleaves (by decide)) rfl rfl (Nat.le_of_ble_eq_true rfl) ?_
  refine z_iadd dX11_through_235 (nI_add _ _) ?_
  refine z_putI dX11_through_236 fl_X11_216 rfl rfl (Or.inl rfl) rfl ?_
  refine z_aload_n dX11_through_239 rfl rfl ?_
  refine z_getR dX11_through_240 fl_X11_44 rfl rfl rfl ?_
  refine z_iload_n dX11_through_243 rfl rfl ?_
  refine z_zald dX11_through_244 rfl rfl (by omega) rfl ?_
  refine z_if_eq (tgt := 252) dX11_through_245 (by decide) (fun c245 => ?_) (fun c245 => ?_)
  · refine z_iconst (v := 1) dX11_through_252 (by decide) ?_
    refine z_istore dX11_through_253 (by decide) ?_
    show z_V _ _ _ _ _ _ _ _ _ [_, _, _, _, _, _, _, _] _ _
    refine z_iload_n dX11_through_255 rfl rfl ?_
    refine z_bipush (v := nI 14) dX11_through_256 (by decide) ?_
    refine z_icmp_ne (tgt := 310) dX11_through_258 (by decide) (fun _ => ?_) (fun c_ => absurd c_ (by decide +kernel))
    refine z_iload_n dX11_through_310 rfl rfl ?_
    refine z_bipush (v := nI 12) dX11_through_311 (by decide) ?_
    refine z_icmp_ne (tgt := 326) dX11_through_313 (by decide) (fun _ => ?_) (fun c_ => absurd c_ (by decide +kernel))
    refine z_iload_n dX11_through_326 rfl rfl ?_
    refine z_iconst (v := nI 3) dX11_through_327 (by decide) ?_
    refine z_bipush (v := nI 8) dX11_through_328 (by decide) ?_
    refine z_cS1 dX11_through_330 ml_X11_114 (sp_within) rfl rfl (Nat.le_of_ble_eq_true rfl) ?_
    refine z_if_eq (tgt := 372) dX11_through_333 (by decide) (fun _ => ?_) (fun c_ => absurd (by decide +kernel) c_)
    refine z_iconst (v := 0) dX11_through_372 (by decide) ?_
    exact z_iret dX11_through_373 rfl rfl rfl
  · refine z_iconst (v := nI 2) dX11_through_248 (by decide) ?_
    refine z_goto (tgt := 253) dX11_through_249 (by decide) ?_
    refine z_istore dX11_through_253 (by decide) ?_
    show z_V _ _ _ _ _ _ _ _ _ [_, _, _, _, _, _, _, _] _ _
    refine z_iload_n dX11_through_255 rfl rfl ?_
    refine z_bipush (v := nI 14) dX11_through_256 (by decide) ?_
    refine z_icmp_ne (tgt := 310) dX11_through_258 (by decide) (fun _ => ?_) (fun c_ => absurd c_ (by decide +kernel))
    refine z_iload_n dX11_through_310 rfl rfl ?_
    refine z_bipush (v := nI 12) dX11_through_311 (by decide) ?_
    refine z_icmp_ne (tgt := 326) dX11_through_313 (by decide) (fun _ => ?_) (fun c_ => absurd c_ (by decide +kernel))
    refine z_iload_n dX11_through_326 rfl rfl ?_
    refine z_iconst (v := nI 3) dX11_through_327 (by decide) ?_
    refine z_bipush (v := nI 8) dX11_through_328 (by decide) ?_
    refine z_cS1 dX11_through_330 ml_X11_114 (sp_within) rfl rfl (Nat.le_of_ble_eq_true rfl) ?_
    refine z_if_eq (tgt := 372) dX11_through_333 (by decide) (fun _ => ?_) (fun c_ => absurd (by decide +kernel) c_)
    refine z_iconst (v := 0) dX11_through_372 (by decide) ?_
    exact z_iret dX11_through_373 rfl rfl rfl
set_option maxRecDepth 100000 in
set_option maxHeartbeats 4000000 in
theorem sp_th12 {d : Nat} {σ : Nat → Nat → Int32} {τ : Nat → Nat → Int64} {j k n e : Nat} (hj : j < 30) (hk0 : σ 101 j = nI k) (hk : k < 40) (hn : σ 92 35 = nI n) (h40 : n < 40) (hop : σ 93 k = nI 12) (he : σ 92 44 = nI (e + 1)) (he8 : e + 1 ≤ 6) {b : Nat} (hb : σ 121 e = nI b) (hb40 : b < 40) : z_MV M_X11_through (d + 2) 0 0 [.ref 92, .int (nI j)] (124, z_r0, σ, τ) (some (.int (nI 2))) (124, z_r0, z_up (hg (hg σ e) (e + 0)) 117 b 1, τ) := by
  refine z_MV.of pn_X11_through (Nat.le_of_ble_eq_true rfl) (by simp [Value.category]) rfl ?_
  show z_V _ _ _ _ _ _ _ _ _ [_, _, _, _, _, _, _, _] _ _
  refine z_aload_n dX11_through_0 rfl rfl ?_
  refine z_getR dX11_through_1 fl_X11_41 rfl rfl rfl ?_
  refine z_iload_n dX11_through_4 rfl rfl ?_
  refine z_iald dX11_through_5 rfl rfl (by omega) hk0 ?_
  refine z_istore_n dX11_through_6 rfl (by decide) ?_
  show z_V _ _ _ _ _ _ _ _ _ [_, _, _, _, _, _, _, _] _ _
  refine z_aload_n dX11_through_7 rfl rfl ?_
  refine z_getR dX11_through_8 fl_X11_7 rfl rfl rfl ?_
  refine z_iload_n dX11_through_11 rfl rfl ?_
  refine z_iald dX11_through_12 rfl rfl (by omega) hop ?_
  refine z_istore_n dX11_through_13 rfl (by decide) ?_
  show z_V _ _ _ _ _ _ _ _ _ [_, _, _, _, _, _, _, _] _ _
  refine z_aload_n dX11_through_14 rfl rfl ?_
  refine z_getI dX11_through_15 fl_X11_209 rfl rfl hn ?_
  refine z_istore dX11_through_18 (by decide) ?_
  show z_V _ _ _ _ _ _ _ _ _ [_, _, _, _, _, _, _, _] _ _
  refine z_iload_n dX11_through_20 rfl rfl ?_
  refine z_cS1 dX11_through_21 ml_X11_133 (sp_rtakes (by decide)) rfl rfl (Nat.le_of_ble_eq_true rfl) ?_
  refine z_if_le (tgt := 41) dX11_through_24 (by decide) (fun c_ => absurd c_ (by decide +kernel)) (fun _ => ?_)
  refine z_aload_n dX11_through_27 rfl rfl ?_
  refine z_getR dX11_through_28 fl_X11_105 rfl rfl rfl ?_
  refine z_aload_n dX11_through_31 rfl rfl ?_
  refine z_getI dX11_through_32 fl_X11_216 rfl rfl he ?_
  refine z_iconst (v := 1) dX11_through_35 (by decide) ?_
  refine z_isub dX11_through_36 (nI_pred _) ?_
  refine z_iald dX11_through_37 rfl rfl (by omega) hb ?_
  refine z_goto (tgt := 42) dX11_through_38 (by decide) ?_
  refine z_istore dX11_through_42 (by decide) ?_
  show z_V _ _ _ _ _ _ _ _ _ [_, _, _, _, _, _, _, _] _ _
  refine z_iload_n dX11_through_44 rfl rfl ?_
  refine z_cS1 dX11_through_45 ml_X11_133 (sp_rtakes (by decide)) rfl rfl (Nat.le_of_ble_eq_true rfl) ?_
  refine z_iconst (v := 1) dX11_through_48 (by decide) ?_
  refine z_icmp_le (tgt := 66) dX11_through_49 (by decide) (fun _ => ?_) (fun c_ => absurd (by decide +kernel) c_)
  refine z_iconst (v := 0) dX11_through_66 (by decide) ?_
  refine z_istore dX11_through_67 (by decide) ?_
  show z_V _ _ _ _ _ _ _ _ _ [_, _, _, _, _, _, _, _] _ _
  refine z_aload_n dX11_through_69 rfl rfl ?_
  refine z_dup dX11_through_70 rfl ?_
  refine z_getI dX11_through_71 fl_X11_216 rfl rfl he ?_
  refine z_iload_n dX11_through_74 rfl rfl ?_
  refine z_cS1 dX11_through_75 ml_X11_133 (sp_rtakes (by decide)) rfl rfl (Nat.le_of_ble_eq_true rfl) ?_
  refine z_isub dX11_through_78 (show _ = nI e from pk_sub (Nat.le_add_left 1 e)) ?_
  refine z_putI dX11_through_79 fl_X11_216 rfl rfl (Or.inl rfl) rfl ?_
  show z_V _ _ _ _ _ _ _ _ _ _ _ (124, z_r0, hg σ e, τ)
  refine z_iload_n dX11_through_82 rfl rfl ?_
  refine z_if_ne (tgt := 108) dX11_through_83 (by decide) (fun _ => ?_) (fun c_ => absurd c_ (by decide +kernel))
  refine z_iload_n dX11_through_108 rfl rfl ?_
  refine z_iconst (v := 1) dX11_through_109 (by decide) ?_
  refine z_icmp_ne (tgt := 133) dX11_through_110 (by decide) (fun _ => ?_) (fun c_ => absurd c_ (by decide +kernel))
  refine z_iload_n dX11_through_133 rfl rfl ?_
  refine z_iconst (v := nI 2) dX11_through_134 (by decide) ?_
  refine z_icmp_ne (tgt := 151) dX11_through_135 (by decide) (fun _ => ?_) (fun c_ => absurd c_ (by decide +kernel))
  refine z_iload_n dX11_through_151 rfl rfl ?_
  refine z_iconst (v := nI 3) dX11_through_152 (by decide) ?_
  refine z_bipush (v := nI 8) dX11_through_153 (by decide) ?_
  refine z_cS1 dX11_through_155 ml_X11_114 (sp_within) rfl rfl (Nat.le_of_ble_eq_true rfl) ?_
  refine z_if_eq (tgt := 179) dX11_through_158 (by decide) (fun _ => ?_) (fun c_ => absurd (by decide +kernel) c_)
  refine z_iload_n dX11_through_179 rfl rfl ?_
  refine z_bipush (v := nI 9) dX11_through_180 (by decide) ?_
  refine z_icmp_eq (tgt := 191) dX11_through_182 (by decide) (fun c_ => absurd c_ (by decide +kernel)) (fun _ => ?_)
  refine z_iload_n dX11_through_185 rfl rfl ?_
  refine z_bipush (v := nI 11) dX11_through_186 (by decide) ?_
  refine z_icmp_ne (tgt := 226) dX11_through_188 (by decide) (fun _ => ?_) (fun c_ => absurd c_ (by decide +kernel))
  refine z_aload_n dX11_through_226 rfl rfl ?_
  refine z_dup dX11_through_227 rfl ?_
  refine z_getI dX11_through_228 fl_X11_216 rfl rfl (show _ = nI e by simp [hg, z_up]) ?_
  refine z_iload_n dX11_through_231 rfl rfl ?_
  refine z_cS1 dX11_through_232 ml_X11_136 (sp_rleaves (by decide)) rfl rfl (Nat.le_of_ble_eq_true rfl) ?_
  refine z_iadd dX11_through_235 (nI_add _ _) ?_
  refine z_putI dX11_through_236 fl_X11_216 rfl rfl (Or.inl rfl) rfl ?_
  refine z_aload_n dX11_through_239 rfl rfl ?_
  refine z_getR dX11_through_240 fl_X11_44 rfl rfl rfl ?_
  refine z_iload_n dX11_through_243 rfl rfl ?_
  refine z_zald dX11_through_244 rfl rfl (by omega) rfl ?_
  refine z_if_eq (tgt := 252) dX11_through_245 (by decide) (fun c245 => ?_) (fun c245 => ?_)
  · refine z_iconst (v := 1) dX11_through_252 (by decide) ?_
    refine z_istore dX11_through_253 (by decide) ?_
    show z_V _ _ _ _ _ _ _ _ _ [_, _, _, _, _, _, _, _] _ _
    refine z_iload_n dX11_through_255 rfl rfl ?_
    refine z_bipush (v := nI 14) dX11_through_256 (by decide) ?_
    refine z_icmp_ne (tgt := 310) dX11_through_258 (by decide) (fun _ => ?_) (fun c_ => absurd c_ (by decide +kernel))
    refine z_iload_n dX11_through_310 rfl rfl ?_
    refine z_bipush (v := nI 12) dX11_through_311 (by decide) ?_
    refine z_icmp_ne (tgt := 326) dX11_through_313 (by decide) (fun c_ => absurd (by decide +kernel) c_) (fun _ => ?_)
    refine z_aload_n dX11_through_316 rfl rfl ?_
    refine z_getR dX11_through_317 fl_X11_93 rfl rfl rfl ?_
    refine z_iload dX11_through_320 rfl ?_
    refine z_iconst (v := 1) dX11_through_322 (by decide) ?_
    refine z_zast dX11_through_323 rfl rfl (by omega) (by first | exact Or.inl rfl | exact Or.inr rfl) ?_
    refine z_iconst (v := nI 2) dX11_through_324 (by decide) ?_
    exact z_iret dX11_through_325 rfl rfl rfl
  · refine z_iconst (v := nI 2) dX11_through_248 (by decide) ?_
    refine z_goto (tgt := 253) dX11_through_249 (by decide) ?_
    refine z_istore dX11_through_253 (by decide) ?_
    show z_V _ _ _ _ _ _ _ _ _ [_, _, _, _, _, _, _, _] _ _
    refine z_iload_n dX11_through_255 rfl rfl ?_
    refine z_bipush (v := nI 14) dX11_through_256 (by decide) ?_
    refine z_icmp_ne (tgt := 310) dX11_through_258 (by decide) (fun _ => ?_) (fun c_ => absurd c_ (by decide +kernel))
    refine z_iload_n dX11_through_310 rfl rfl ?_
    refine z_bipush (v := nI 12) dX11_through_311 (by decide) ?_
    refine z_icmp_ne (tgt := 326) dX11_through_313 (by decide) (fun c_ => absurd (by decide +kernel) c_) (fun _ => ?_)
    refine z_aload_n dX11_through_316 rfl rfl ?_
    refine z_getR dX11_through_317 fl_X11_93 rfl rfl rfl ?_
    refine z_iload dX11_through_320 rfl ?_
    refine z_iconst (v := 1) dX11_through_322 (by decide) ?_
    refine z_zast dX11_through_323 rfl rfl (by omega) (by first | exact Or.inl rfl | exact Or.inr rfl) ?_
    refine z_iconst (v := nI 2) dX11_through_324 (by decide) ?_
    exact z_iret dX11_through_325 rfl rfl rfl
set_option maxRecDepth 100000 in
set_option maxHeartbeats 4000000 in
theorem sp_th13 {d : Nat} {σ : Nat → Nat → Int32} {τ : Nat → Nat → Int64} {j k n e : Nat} (hj : j < 30) (hk0 : σ 101 j = nI k) (hk : k < 40) (hn : σ 92 35 = nI n) (h40 : n < 40) (hop : σ 93 k = nI 13) (he : σ 92 44 = nI e) (he8 : e + 0 ≤ 6) : z_MV M_X11_through (d + 2) 0 0 [.ref 92, .int (nI j)] (124, z_r0, σ, τ) (some (.int (0))) (124, z_r0, hg (hg σ e) (e + 0), τ) := by
  refine z_MV.of pn_X11_through (Nat.le_of_ble_eq_true rfl) (by simp [Value.category]) rfl ?_
  show z_V _ _ _ _ _ _ _ _ _ [_, _, _, _, _, _, _, _] _ _
  refine z_aload_n dX11_through_0 rfl rfl ?_
  refine z_getR dX11_through_1 fl_X11_41 rfl rfl rfl ?_
  refine z_iload_n dX11_through_4 rfl rfl ?_
  refine z_iald dX11_through_5 rfl rfl (by omega) hk0 ?_
  refine z_istore_n dX11_through_6 rfl (by decide) ?_
  show z_V _ _ _ _ _ _ _ _ _ [_, _, _, _, _, _, _, _] _ _
  refine z_aload_n dX11_through_7 rfl rfl ?_
  refine z_getR dX11_through_8 fl_X11_7 rfl rfl rfl ?_
  refine z_iload_n dX11_through_11 rfl rfl ?_
  refine z_iald dX11_through_12 rfl rfl (by omega) hop ?_
  refine z_istore_n dX11_through_13 rfl (by decide) ?_
  show z_V _ _ _ _ _ _ _ _ _ [_, _, _, _, _, _, _, _] _ _
  refine z_aload_n dX11_through_14 rfl rfl ?_
  refine z_getI dX11_through_15 fl_X11_209 rfl rfl hn ?_
  refine z_istore dX11_through_18 (by decide) ?_
  show z_V _ _ _ _ _ _ _ _ _ [_, _, _, _, _, _, _, _] _ _
  refine z_iload_n dX11_through_20 rfl rfl ?_
  refine z_cS1 dX11_through_21 ml_X11_133 (sp_rtakes (by decide)) rfl rfl (Nat.le_of_ble_eq_true rfl) ?_
  refine z_if_le (tgt := 41) dX11_through_24 (by decide) (fun _ => ?_) (fun c_ => absurd (by decide +kernel) c_)
  refine z_iconst (v := 0) dX11_through_41 (by decide) ?_
  refine z_istore dX11_through_42 (by decide) ?_
  show z_V _ _ _ _ _ _ _ _ _ [_, _, _, _, _, _, _, _] _ _
  refine z_iload_n dX11_through_44 rfl rfl ?_
  refine z_cS1 dX11_through_45 ml_X11_133 (sp_rtakes (by decide)) rfl rfl (Nat.le_of_ble_eq_true rfl) ?_
  refine z_iconst (v := 1) dX11_through_48 (by decide) ?_
  refine z_icmp_le (tgt := 66) dX11_through_49 (by decide) (fun _ => ?_) (fun c_ => absurd (by decide +kernel) c_)
  refine z_iconst (v := 0) dX11_through_66 (by decide) ?_
  refine z_istore dX11_through_67 (by decide) ?_
  show z_V _ _ _ _ _ _ _ _ _ [_, _, _, _, _, _, _, _] _ _
  refine z_aload_n dX11_through_69 rfl rfl ?_
  refine z_dup dX11_through_70 rfl ?_
  refine z_getI dX11_through_71 fl_X11_216 rfl rfl he ?_
  refine z_iload_n dX11_through_74 rfl rfl ?_
  refine z_cS1 dX11_through_75 ml_X11_133 (sp_rtakes (by decide)) rfl rfl (Nat.le_of_ble_eq_true rfl) ?_
  refine z_isub dX11_through_78 (show _ = nI e from pk_sub (Nat.zero_le e)) ?_
  refine z_putI dX11_through_79 fl_X11_216 rfl rfl (Or.inl rfl) rfl ?_
  show z_V _ _ _ _ _ _ _ _ _ _ _ (124, z_r0, hg σ e, τ)
  refine z_iload_n dX11_through_82 rfl rfl ?_
  refine z_if_ne (tgt := 108) dX11_through_83 (by decide) (fun _ => ?_) (fun c_ => absurd c_ (by decide +kernel))
  refine z_iload_n dX11_through_108 rfl rfl ?_
  refine z_iconst (v := 1) dX11_through_109 (by decide) ?_
  refine z_icmp_ne (tgt := 133) dX11_through_110 (by decide) (fun _ => ?_) (fun c_ => absurd c_ (by decide +kernel))
  refine z_iload_n dX11_through_133 rfl rfl ?_
  refine z_iconst (v := nI 2) dX11_through_134 (by decide) ?_
  refine z_icmp_ne (tgt := 151) dX11_through_135 (by decide) (fun _ => ?_) (fun c_ => absurd c_ (by decide +kernel))
  refine z_iload_n dX11_through_151 rfl rfl ?_
  refine z_iconst (v := nI 3) dX11_through_152 (by decide) ?_
  refine z_bipush (v := nI 8) dX11_through_153 (by decide) ?_
  refine z_cS1 dX11_through_155 ml_X11_114 (sp_within) rfl rfl (Nat.le_of_ble_eq_true rfl) ?_
  refine z_if_eq (tgt := 179) dX11_through_158 (by decide) (fun _ => ?_) (fun c_ => absurd (by decide +kernel) c_)
  refine z_iload_n dX11_through_179 rfl rfl ?_
  refine z_bipush (v := nI 9) dX11_through_180 (by decide) ?_
  refine z_icmp_eq (tgt := 191) dX11_through_182 (by decide) (fun c_ => absurd c_ (by decide +kernel)) (fun _ => ?_)
  refine z_iload_n dX11_through_185 rfl rfl ?_
  refine z_bipush (v := nI 11) dX11_through_186 (by decide) ?_
  refine z_icmp_ne (tgt := 226) dX11_through_188 (by decide) (fun _ => ?_) (fun c_ => absurd c_ (by decide +kernel))
  refine z_aload_n dX11_through_226 rfl rfl ?_
  refine z_dup dX11_through_227 rfl ?_
  refine z_getI dX11_through_228 fl_X11_216 rfl rfl (show _ = nI e by simp [hg, z_up]) ?_
  refine z_iload_n dX11_through_231 rfl rfl ?_
  refine z_cS1 dX11_through_232 ml_X11_136 (sp_rleaves (by decide)) rfl rfl (Nat.le_of_ble_eq_true rfl) ?_
  refine z_iadd dX11_through_235 (nI_add _ _) ?_
  refine z_putI dX11_through_236 fl_X11_216 rfl rfl (Or.inl rfl) rfl ?_
  refine z_aload_n dX11_through_239 rfl rfl ?_
  refine z_getR dX11_through_240 fl_X11_44 rfl rfl rfl ?_
  refine z_iload_n dX11_through_243 rfl rfl ?_
  refine z_zald dX11_through_244 rfl rfl (by omega) rfl ?_
  refine z_if_eq (tgt := 252) dX11_through_245 (by decide) (fun c245 => ?_) (fun c245 => ?_)
  · refine z_iconst (v := 1) dX11_through_252 (by decide) ?_
    refine z_istore dX11_through_253 (by decide) ?_
    show z_V _ _ _ _ _ _ _ _ _ [_, _, _, _, _, _, _, _] _ _
    refine z_iload_n dX11_through_255 rfl rfl ?_
    refine z_bipush (v := nI 14) dX11_through_256 (by decide) ?_
    refine z_icmp_ne (tgt := 310) dX11_through_258 (by decide) (fun _ => ?_) (fun c_ => absurd c_ (by decide +kernel))
    refine z_iload_n dX11_through_310 rfl rfl ?_
    refine z_bipush (v := nI 12) dX11_through_311 (by decide) ?_
    refine z_icmp_ne (tgt := 326) dX11_through_313 (by decide) (fun _ => ?_) (fun c_ => absurd c_ (by decide +kernel))
    refine z_iload_n dX11_through_326 rfl rfl ?_
    refine z_iconst (v := nI 3) dX11_through_327 (by decide) ?_
    refine z_bipush (v := nI 8) dX11_through_328 (by decide) ?_
    refine z_cS1 dX11_through_330 ml_X11_114 (sp_within) rfl rfl (Nat.le_of_ble_eq_true rfl) ?_
    refine z_if_eq (tgt := 372) dX11_through_333 (by decide) (fun _ => ?_) (fun c_ => absurd (by decide +kernel) c_)
    refine z_iconst (v := 0) dX11_through_372 (by decide) ?_
    exact z_iret dX11_through_373 rfl rfl rfl
  · refine z_iconst (v := nI 2) dX11_through_248 (by decide) ?_
    refine z_goto (tgt := 253) dX11_through_249 (by decide) ?_
    refine z_istore dX11_through_253 (by decide) ?_
    show z_V _ _ _ _ _ _ _ _ _ [_, _, _, _, _, _, _, _] _ _
    refine z_iload_n dX11_through_255 rfl rfl ?_
    refine z_bipush (v := nI 14) dX11_through_256 (by decide) ?_
    refine z_icmp_ne (tgt := 310) dX11_through_258 (by decide) (fun _ => ?_) (fun c_ => absurd c_ (by decide +kernel))
    refine z_iload_n dX11_through_310 rfl rfl ?_
    refine z_bipush (v := nI 12) dX11_through_311 (by decide) ?_
    refine z_icmp_ne (tgt := 326) dX11_through_313 (by decide) (fun _ => ?_) (fun c_ => absurd c_ (by decide +kernel))
    refine z_iload_n dX11_through_326 rfl rfl ?_
    refine z_iconst (v := nI 3) dX11_through_327 (by decide) ?_
    refine z_bipush (v := nI 8) dX11_through_328 (by decide) ?_
    refine z_cS1 dX11_through_330 ml_X11_114 (sp_within) rfl rfl (Nat.le_of_ble_eq_true rfl) ?_
    refine z_if_eq (tgt := 372) dX11_through_333 (by decide) (fun _ => ?_) (fun c_ => absurd (by decide +kernel) c_)
    refine z_iconst (v := 0) dX11_through_372 (by decide) ?_
    exact z_iret dX11_through_373 rfl rfl rfl
set_option maxRecDepth 100000 in
set_option maxHeartbeats 4000000 in
theorem sp_th3s {d : Nat} {σ : Nat → Nat → Int32} {τ : Nat → Nat → Int64} {j k n e : Nat} (hj : j < 30) (hk0 : σ 101 j = nI k) (hk : k < 40) (hn : σ 92 35 = nI n) (h40 : n < 40) (hop : σ 93 k = nI 3) (he : σ 92 44 = nI (e + 2)) (he8 : e + 2 ≤ 6) {b : Nat} (hb : σ 121 (e + 1) = nI b) (hb40 : b < 40) {a : Nat} (ha : σ 121 e = nI a) (ha40 : a < 40) (hsz : (cal (hg σ e) n 3 a b).2 92 35 = nI n) : z_MV M_X11_through (d + 2) 0 0 [.ref 92, .int (nI j)] (124, z_r0, σ, τ) (some (.int (0))) (124, z_r0, hg (z_up ((cal (hg σ e) n 3 a b).2) 121 e (nI (cal (hg σ e) n 3 a b).1)) (e + 1), τ) := by
  refine z_MV.of pn_X11_through (Nat.le_of_ble_eq_true rfl) (by simp [Value.category]) rfl ?_
  show z_V _ _ _ _ _ _ _ _ _ [_, _, _, _, _, _, _, _] _ _
  refine z_aload_n dX11_through_0 rfl rfl ?_
  refine z_getR dX11_through_1 fl_X11_41 rfl rfl rfl ?_
  refine z_iload_n dX11_through_4 rfl rfl ?_
  refine z_iald dX11_through_5 rfl rfl (by omega) hk0 ?_
  refine z_istore_n dX11_through_6 rfl (by decide) ?_
  show z_V _ _ _ _ _ _ _ _ _ [_, _, _, _, _, _, _, _] _ _
  refine z_aload_n dX11_through_7 rfl rfl ?_
  refine z_getR dX11_through_8 fl_X11_7 rfl rfl rfl ?_
  refine z_iload_n dX11_through_11 rfl rfl ?_
  refine z_iald dX11_through_12 rfl rfl (by omega) hop ?_
  refine z_istore_n dX11_through_13 rfl (by decide) ?_
  show z_V _ _ _ _ _ _ _ _ _ [_, _, _, _, _, _, _, _] _ _
  refine z_aload_n dX11_through_14 rfl rfl ?_
  refine z_getI dX11_through_15 fl_X11_209 rfl rfl hn ?_
  refine z_istore dX11_through_18 (by decide) ?_
  show z_V _ _ _ _ _ _ _ _ _ [_, _, _, _, _, _, _, _] _ _
  refine z_iload_n dX11_through_20 rfl rfl ?_
  refine z_cS1 dX11_through_21 ml_X11_133 (sp_rtakes (by decide)) rfl rfl (Nat.le_of_ble_eq_true rfl) ?_
  refine z_if_le (tgt := 41) dX11_through_24 (by decide) (fun c_ => absurd c_ (by decide +kernel)) (fun _ => ?_)
  refine z_aload_n dX11_through_27 rfl rfl ?_
  refine z_getR dX11_through_28 fl_X11_105 rfl rfl rfl ?_
  refine z_aload_n dX11_through_31 rfl rfl ?_
  refine z_getI dX11_through_32 fl_X11_216 rfl rfl he ?_
  refine z_iconst (v := 1) dX11_through_35 (by decide) ?_
  refine z_isub dX11_through_36 (nI_pred _) ?_
  refine z_iald dX11_through_37 rfl rfl (by omega) hb ?_
  refine z_goto (tgt := 42) dX11_through_38 (by decide) ?_
  refine z_istore dX11_through_42 (by decide) ?_
  show z_V _ _ _ _ _ _ _ _ _ [_, _, _, _, _, _, _, _] _ _
  refine z_iload_n dX11_through_44 rfl rfl ?_
  refine z_cS1 dX11_through_45 ml_X11_133 (sp_rtakes (by decide)) rfl rfl (Nat.le_of_ble_eq_true rfl) ?_
  refine z_iconst (v := 1) dX11_through_48 (by decide) ?_
  refine z_icmp_le (tgt := 66) dX11_through_49 (by decide) (fun c_ => absurd c_ (by decide +kernel)) (fun _ => ?_)
  refine z_aload_n dX11_through_52 rfl rfl ?_
  refine z_getR dX11_through_53 fl_X11_105 rfl rfl rfl ?_
  refine z_aload_n dX11_through_56 rfl rfl ?_
  refine z_getI dX11_through_57 fl_X11_216 rfl rfl he ?_
  refine z_iconst (v := nI 2) dX11_through_60 (by decide) ?_
  refine z_isub dX11_through_61 (show _ = nI e from pk_sub (Nat.le_add_left 2 e)) ?_
  refine z_iald dX11_through_62 rfl rfl (by omega) ha ?_
  refine z_goto (tgt := 67) dX11_through_63 (by decide) ?_
  refine z_istore dX11_through_67 (by decide) ?_
  show z_V _ _ _ _ _ _ _ _ _ [_, _, _, _, _, _, _, _] _ _
  refine z_aload_n dX11_through_69 rfl rfl ?_
  refine z_dup dX11_through_70 rfl ?_
  refine z_getI dX11_through_71 fl_X11_216 rfl rfl he ?_
  refine z_iload_n dX11_through_74 rfl rfl ?_
  refine z_cS1 dX11_through_75 ml_X11_133 (sp_rtakes (by decide)) rfl rfl (Nat.le_of_ble_eq_true rfl) ?_
  refine z_isub dX11_through_78 (show _ = nI e from pk_sub (Nat.le_add_left 2 e)) ?_
  refine z_putI dX11_through_79 fl_X11_216 rfl rfl (Or.inl rfl) rfl ?_
  show z_V _ _ _ _ _ _ _ _ _ _ _ (124, z_r0, hg σ e, τ)
  refine z_iload_n dX11_through_82 rfl rfl ?_
  refine z_if_ne (tgt := 108) dX11_through_83 (by decide) (fun _ => ?_) (fun c_ => absurd c_ (by decide +kernel))
  refine z_iload_n dX11_through_108 rfl rfl ?_
  refine z_iconst (v := 1) dX11_through_109 (by decide) ?_
  refine z_icmp_ne (tgt := 133) dX11_through_110 (by decide) (fun _ => ?_) (fun c_ => absurd c_ (by decide +kernel))
  refine z_iload_n dX11_through_133 rfl rfl ?_
  refine z_iconst (v := nI 2) dX11_through_134 (by decide) ?_
  refine z_icmp_ne (tgt := 151) dX11_through_135 (by decide) (fun _ => ?_) (fun c_ => absurd c_ (by decide +kernel))
  refine z_iload_n dX11_through_151 rfl rfl ?_
  refine z_iconst (v := nI 3) dX11_through_152 (by decide) ?_
  refine z_bipush (v := nI 8) dX11_through_153 (by decide) ?_
  refine z_cS1 dX11_through_155 ml_X11_114 (sp_within) rfl rfl (Nat.le_of_ble_eq_true rfl) ?_
  refine z_if_eq (tgt := 179) dX11_through_158 (by decide) (fun c_ => absurd c_ (by decide +kernel)) (fun _ => ?_)
  refine z_aload_n dX11_through_161 rfl rfl ?_
  refine z_getR dX11_through_162 fl_X11_105 rfl rfl rfl ?_
  refine z_aload_n dX11_through_165 rfl rfl ?_
  refine z_getI dX11_through_166 fl_X11_216 rfl rfl (show _ = nI e by simp [hg, z_up]) ?_
  refine z_aload_n dX11_through_169 rfl rfl ?_
  refine z_iload_n dX11_through_170 rfl rfl ?_
  refine z_iload dX11_through_171 rfl ?_
  refine z_iload dX11_through_173 rfl ?_
  refine z_cV1 dX11_through_175 ml_X11_219 (sp_calculated (show _ = nI n from hg_35.trans hn) h40 (by decide) (by decide) ha40 hb40) rfl ⟨by decide, rfl⟩ rfl rfl (Nat.le_of_ble_eq_true rfl) ?_
  refine z_iast dX11_through_178 rfl rfl (by omega) ?_
  refine z_iload_n dX11_through_179 rfl rfl ?_
  refine z_bipush (v := nI 9) dX11_through_180 (by decide) ?_
  refine z_icmp_eq (tgt := 191) dX11_through_182 (by decide) (fun c_ => absurd c_ (by decide +kernel)) (fun _ => ?_)
  refine z_iload_n dX11_through_185 rfl rfl ?_
  refine z_bipush (v := nI 11) dX11_through_186 (by decide) ?_
  refine z_icmp_ne (tgt := 226) dX11_through_188 (by decide) (fun _ => ?_) (fun c_ => absurd c_ (by decide +kernel))
  refine z_aload_n dX11_through_226 rfl rfl ?_
  refine z_dup dX11_through_227 rfl ?_
  refine z_getI dX11_through_228 fl_X11_216 rfl rfl (show _ = nI e by rw [z_up_o _ _ (Or.inl (by decide)), cal_44]; simp [hg, z_up]) ?_
  refine z_iload_n dX11_through_231 rfl rfl ?_
  refine z_cS1 dX11_through_232 ml_X11_136 (sp_rleaves (by decide)) rfl rfl (Nat.le_of_ble_eq_true rfl) ?_
  refine z_iadd dX11_through_235 (nI_add _ _) ?_
  refine z_putI dX11_through_236 fl_X11_216 rfl rfl (Or.inl rfl) rfl ?_
  refine z_aload_n dX11_through_239 rfl rfl ?_
  refine z_getR dX11_through_240 fl_X11_44 rfl rfl rfl ?_
  refine z_iload_n dX11_through_243 rfl rfl ?_
  refine z_zald dX11_through_244 rfl rfl (by omega) rfl ?_
  refine z_if_eq (tgt := 252) dX11_through_245 (by decide) (fun c245 => ?_) (fun c245 => ?_)
  · refine z_iconst (v := 1) dX11_through_252 (by decide) ?_
    refine z_istore dX11_through_253 (by decide) ?_
    show z_V _ _ _ _ _ _ _ _ _ [_, _, _, _, _, _, _, _] _ _
    refine z_iload_n dX11_through_255 rfl rfl ?_
    refine z_bipush (v := nI 14) dX11_through_256 (by decide) ?_
    refine z_icmp_ne (tgt := 310) dX11_through_258 (by decide) (fun _ => ?_) (fun c_ => absurd c_ (by decide +kernel))
    refine z_iload_n dX11_through_310 rfl rfl ?_
    refine z_bipush (v := nI 12) dX11_through_311 (by decide) ?_
    refine z_icmp_ne (tgt := 326) dX11_through_313 (by decide) (fun _ => ?_) (fun c_ => absurd c_ (by decide +kernel))
    refine z_iload_n dX11_through_326 rfl rfl ?_
    refine z_iconst (v := nI 3) dX11_through_327 (by decide) ?_
    refine z_bipush (v := nI 8) dX11_through_328 (by decide) ?_
    refine z_cS1 dX11_through_330 ml_X11_114 (sp_within) rfl rfl (Nat.le_of_ble_eq_true rfl) ?_
    refine z_if_eq (tgt := 372) dX11_through_333 (by decide) (fun c_ => absurd c_ (by decide +kernel)) (fun _ => ?_)
    refine z_aload_n dX11_through_336 rfl rfl ?_
    refine z_getI dX11_through_337 fl_X11_209 rfl rfl (show _ = nI n by rw [z_up_o _ _ (Or.inr (by decide)), z_up_o _ _ (Or.inl (by decide))]; exact hsz) ?_
    refine z_iload dX11_through_340 rfl ?_
    refine z_icmp_le (tgt := 372) dX11_through_342 (by decide) (fun _ => ?_) (fun c_ => absurd (Int32.le_refl _) c_)
    refine z_iconst (v := 0) dX11_through_372 (by decide) ?_
    exact z_iret dX11_through_373 rfl rfl rfl
  · refine z_iconst (v := nI 2) dX11_through_248 (by decide) ?_
    refine z_goto (tgt := 253) dX11_through_249 (by decide) ?_
    refine z_istore dX11_through_253 (by decide) ?_
    show z_V _ _ _ _ _ _ _ _ _ [_, _, _, _, _, _, _, _] _ _
    refine z_iload_n dX11_through_255 rfl rfl ?_
    refine z_bipush (v := nI 14) dX11_through_256 (by decide) ?_
    refine z_icmp_ne (tgt := 310) dX11_through_258 (by decide) (fun _ => ?_) (fun c_ => absurd c_ (by decide +kernel))
    refine z_iload_n dX11_through_310 rfl rfl ?_
    refine z_bipush (v := nI 12) dX11_through_311 (by decide) ?_
    refine z_icmp_ne (tgt := 326) dX11_through_313 (by decide) (fun _ => ?_) (fun c_ => absurd c_ (by decide +kernel))
    refine z_iload_n dX11_through_326 rfl rfl ?_
    refine z_iconst (v := nI 3) dX11_through_327 (by decide) ?_
    refine z_bipush (v := nI 8) dX11_through_328 (by decide) ?_
    refine z_cS1 dX11_through_330 ml_X11_114 (sp_within) rfl rfl (Nat.le_of_ble_eq_true rfl) ?_
    refine z_if_eq (tgt := 372) dX11_through_333 (by decide) (fun c_ => absurd c_ (by decide +kernel)) (fun _ => ?_)
    refine z_aload_n dX11_through_336 rfl rfl ?_
    refine z_getI dX11_through_337 fl_X11_209 rfl rfl (show _ = nI n by rw [z_up_o _ _ (Or.inr (by decide)), z_up_o _ _ (Or.inl (by decide))]; exact hsz) ?_
    refine z_iload dX11_through_340 rfl ?_
    refine z_icmp_le (tgt := 372) dX11_through_342 (by decide) (fun _ => ?_) (fun c_ => absurd (Int32.le_refl _) c_)
    refine z_iconst (v := 0) dX11_through_372 (by decide) ?_
    exact z_iret dX11_through_373 rfl rfl rfl
set_option maxRecDepth 100000 in
set_option maxHeartbeats 4000000 in
theorem sp_th3n {d : Nat} {σ : Nat → Nat → Int32} {τ : Nat → Nat → Int64} {j k n e : Nat} (hj : j < 30) (hk0 : σ 101 j = nI k) (hk : k < 40) (hn : σ 92 35 = nI n) (h40 : n < 40) (hop : σ 93 k = nI 3) (he : σ 92 44 = nI (e + 2)) (he8 : e + 2 ≤ 6) {b : Nat} (hb : σ 121 (e + 1) = nI b) (hb40 : b < 40) {a : Nat} (ha : σ 121 e = nI a) (ha40 : a < 40) (hsz : (cal (hg σ e) n 3 a b).2 92 35 = nI (n + 1)) (hkd : (cal (hg σ e) n 3 a b).2 113 n = nI 2) : z_MV M_X11_through (d + 2) 0 0 [.ref 92, .int (nI j)] (124, z_r0, σ, τ) (some (.int (-3 - nI n))) (124, z_r0, hg (z_up ((cal (hg σ e) n 3 a b).2) 121 e (nI (cal (hg σ e) n 3 a b).1)) (e + 1), τ) := by
  refine z_MV.of pn_X11_through (Nat.le_of_ble_eq_true rfl) (by simp [Value.category]) rfl ?_
  show z_V _ _ _ _ _ _ _ _ _ [_, _, _, _, _, _, _, _] _ _
  refine z_aload_n dX11_through_0 rfl rfl ?_
  refine z_getR dX11_through_1 fl_X11_41 rfl rfl rfl ?_
  refine z_iload_n dX11_through_4 rfl rfl ?_
  refine z_iald dX11_through_5 rfl rfl (by omega) hk0 ?_
  refine z_istore_n dX11_through_6 rfl (by decide) ?_
  show z_V _ _ _ _ _ _ _ _ _ [_, _, _, _, _, _, _, _] _ _
  refine z_aload_n dX11_through_7 rfl rfl ?_
  refine z_getR dX11_through_8 fl_X11_7 rfl rfl rfl ?_
  refine z_iload_n dX11_through_11 rfl rfl ?_
  refine z_iald dX11_through_12 rfl rfl (by omega) hop ?_
  refine z_istore_n dX11_through_13 rfl (by decide) ?_
  show z_V _ _ _ _ _ _ _ _ _ [_, _, _, _, _, _, _, _] _ _
  refine z_aload_n dX11_through_14 rfl rfl ?_
  refine z_getI dX11_through_15 fl_X11_209 rfl rfl hn ?_
  refine z_istore dX11_through_18 (by decide) ?_
  show z_V _ _ _ _ _ _ _ _ _ [_, _, _, _, _, _, _, _] _ _
  refine z_iload_n dX11_through_20 rfl rfl ?_
  refine z_cS1 dX11_through_21 ml_X11_133 (sp_rtakes (by decide)) rfl rfl (Nat.le_of_ble_eq_true rfl) ?_
  refine z_if_le (tgt := 41) dX11_through_24 (by decide) (fun c_ => absurd c_ (by decide +kernel)) (fun _ => ?_)
  refine z_aload_n dX11_through_27 rfl rfl ?_
  refine z_getR dX11_through_28 fl_X11_105 rfl rfl rfl ?_
  refine z_aload_n dX11_through_31 rfl rfl ?_
  refine z_getI dX11_through_32 fl_X11_216 rfl rfl he ?_
  refine z_iconst (v := 1) dX11_through_35 (by decide) ?_
  refine z_isub dX11_through_36 (nI_pred _) ?_
  refine z_iald dX11_through_37 rfl rfl (by omega) hb ?_
  refine z_goto (tgt := 42) dX11_through_38 (by decide) ?_
  refine z_istore dX11_through_42 (by decide) ?_
  show z_V _ _ _ _ _ _ _ _ _ [_, _, _, _, _, _, _, _] _ _
  refine z_iload_n dX11_through_44 rfl rfl ?_
  refine z_cS1 dX11_through_45 ml_X11_133 (sp_rtakes (by decide)) rfl rfl (Nat.le_of_ble_eq_true rfl) ?_
  refine z_iconst (v := 1) dX11_through_48 (by decide) ?_
  refine z_icmp_le (tgt := 66) dX11_through_49 (by decide) (fun c_ => absurd c_ (by decide +kernel)) (fun _ => ?_)
  refine z_aload_n dX11_through_52 rfl rfl ?_
  refine z_getR dX11_through_53 fl_X11_105 rfl rfl rfl ?_
  refine z_aload_n dX11_through_56 rfl rfl ?_
  refine z_getI dX11_through_57 fl_X11_216 rfl rfl he ?_
  refine z_iconst (v := nI 2) dX11_through_60 (by decide) ?_
  refine z_isub dX11_through_61 (show _ = nI e from pk_sub (Nat.le_add_left 2 e)) ?_
  refine z_iald dX11_through_62 rfl rfl (by omega) ha ?_
  refine z_goto (tgt := 67) dX11_through_63 (by decide) ?_
  refine z_istore dX11_through_67 (by decide) ?_
  show z_V _ _ _ _ _ _ _ _ _ [_, _, _, _, _, _, _, _] _ _
  refine z_aload_n dX11_through_69 rfl rfl ?_
  refine z_dup dX11_through_70 rfl ?_
  refine z_getI dX11_through_71 fl_X11_216 rfl rfl he ?_
  refine z_iload_n dX11_through_74 rfl rfl ?_
  refine z_cS1 dX11_through_75 ml_X11_133 (sp_rtakes (by decide)) rfl rfl (Nat.le_of_ble_eq_true rfl) ?_
  refine z_isub dX11_through_78 (show _ = nI e from pk_sub (Nat.le_add_left 2 e)) ?_
  refine z_putI dX11_through_79 fl_X11_216 rfl rfl (Or.inl rfl) rfl ?_
  show z_V _ _ _ _ _ _ _ _ _ _ _ (124, z_r0, hg σ e, τ)
  refine z_iload_n dX11_through_82 rfl rfl ?_
  refine z_if_ne (tgt := 108) dX11_through_83 (by decide) (fun _ => ?_) (fun c_ => absurd c_ (by decide +kernel))
  refine z_iload_n dX11_through_108 rfl rfl ?_
  refine z_iconst (v := 1) dX11_through_109 (by decide) ?_
  refine z_icmp_ne (tgt := 133) dX11_through_110 (by decide) (fun _ => ?_) (fun c_ => absurd c_ (by decide +kernel))
  refine z_iload_n dX11_through_133 rfl rfl ?_
  refine z_iconst (v := nI 2) dX11_through_134 (by decide) ?_
  refine z_icmp_ne (tgt := 151) dX11_through_135 (by decide) (fun _ => ?_) (fun c_ => absurd c_ (by decide +kernel))
  refine z_iload_n dX11_through_151 rfl rfl ?_
  refine z_iconst (v := nI 3) dX11_through_152 (by decide) ?_
  refine z_bipush (v := nI 8) dX11_through_153 (by decide) ?_
  refine z_cS1 dX11_through_155 ml_X11_114 (sp_within) rfl rfl (Nat.le_of_ble_eq_true rfl) ?_
  refine z_if_eq (tgt := 179) dX11_through_158 (by decide) (fun c_ => absurd c_ (by decide +kernel)) (fun _ => ?_)
  refine z_aload_n dX11_through_161 rfl rfl ?_
  refine z_getR dX11_through_162 fl_X11_105 rfl rfl rfl ?_
  refine z_aload_n dX11_through_165 rfl rfl ?_
  refine z_getI dX11_through_166 fl_X11_216 rfl rfl (show _ = nI e by simp [hg, z_up]) ?_
  refine z_aload_n dX11_through_169 rfl rfl ?_
  refine z_iload_n dX11_through_170 rfl rfl ?_
  refine z_iload dX11_through_171 rfl ?_
  refine z_iload dX11_through_173 rfl ?_
  refine z_cV1 dX11_through_175 ml_X11_219 (sp_calculated (show _ = nI n from hg_35.trans hn) h40 (by decide) (by decide) ha40 hb40) rfl ⟨by decide, rfl⟩ rfl rfl (Nat.le_of_ble_eq_true rfl) ?_
  refine z_iast dX11_through_178 rfl rfl (by omega) ?_
  refine z_iload_n dX11_through_179 rfl rfl ?_
  refine z_bipush (v := nI 9) dX11_through_180 (by decide) ?_
  refine z_icmp_eq (tgt := 191) dX11_through_182 (by decide) (fun c_ => absurd c_ (by decide +kernel)) (fun _ => ?_)
  refine z_iload_n dX11_through_185 rfl rfl ?_
  refine z_bipush (v := nI 11) dX11_through_186 (by decide) ?_
  refine z_icmp_ne (tgt := 226) dX11_through_188 (by decide) (fun _ => ?_) (fun c_ => absurd c_ (by decide +kernel))
  refine z_aload_n dX11_through_226 rfl rfl ?_
  refine z_dup dX11_through_227 rfl ?_
  refine z_getI dX11_through_228 fl_X11_216 rfl rfl (show _ = nI e by rw [z_up_o _ _ (Or.inl (by decide)), cal_44]; simp [hg, z_up]) ?_
  refine z_iload_n dX11_through_231 rfl rfl ?_
  refine z_cS1 dX11_through_232 ml_X11_136 (sp_rleaves (by decide)) rfl rfl (Nat.le_of_ble_eq_true rfl) ?_
  refine z_iadd dX11_through_235 (nI_add _ _) ?_
  refine z_putI dX11_through_236 fl_X11_216 rfl rfl (Or.inl rfl) rfl ?_
  refine z_aload_n dX11_through_239 rfl rfl ?_
  refine z_getR dX11_through_240 fl_X11_44 rfl rfl rfl ?_
  refine z_iload_n dX11_through_243 rfl rfl ?_
  refine z_zald dX11_through_244 rfl rfl (by omega) rfl ?_
  refine z_if_eq (tgt := 252) dX11_through_245 (by decide) (fun c245 => ?_) (fun c245 => ?_)
  · refine z_iconst (v := 1) dX11_through_252 (by decide) ?_
    refine z_istore dX11_through_253 (by decide) ?_
    show z_V _ _ _ _ _ _ _ _ _ [_, _, _, _, _, _, _, _] _ _
    refine z_iload_n dX11_through_255 rfl rfl ?_
    refine z_bipush (v := nI 14) dX11_through_256 (by decide) ?_
    refine z_icmp_ne (tgt := 310) dX11_through_258 (by decide) (fun _ => ?_) (fun c_ => absurd c_ (by decide +kernel))
    refine z_iload_n dX11_through_310 rfl rfl ?_
    refine z_bipush (v := nI 12) dX11_through_311 (by decide) ?_
    refine z_icmp_ne (tgt := 326) dX11_through_313 (by decide) (fun _ => ?_) (fun c_ => absurd c_ (by decide +kernel))
    refine z_iload_n dX11_through_326 rfl rfl ?_
    refine z_iconst (v := nI 3) dX11_through_327 (by decide) ?_
    refine z_bipush (v := nI 8) dX11_through_328 (by decide) ?_
    refine z_cS1 dX11_through_330 ml_X11_114 (sp_within) rfl rfl (Nat.le_of_ble_eq_true rfl) ?_
    refine z_if_eq (tgt := 372) dX11_through_333 (by decide) (fun c_ => absurd c_ (by decide +kernel)) (fun _ => ?_)
    refine z_aload_n dX11_through_336 rfl rfl ?_
    refine z_getI dX11_through_337 fl_X11_209 rfl rfl (show _ = nI (n + 1) by rw [z_up_o _ _ (Or.inr (by decide)), z_up_o _ _ (Or.inl (by decide))]; exact hsz) ?_
    refine z_iload dX11_through_340 rfl ?_
    refine z_icmp_le (tgt := 372) dX11_through_342 (by decide) (fun c_ => absurd c_ (nI_ge (by omega) (by omega))) (fun _ => ?_)
    refine z_aload_n dX11_through_345 rfl rfl ?_
    refine z_getR dX11_through_346 fl_X11_81 rfl rfl rfl ?_
    refine z_aload_n dX11_through_349 rfl rfl ?_
    refine z_getI dX11_through_350 fl_X11_209 rfl rfl (show _ = nI (n + 1) by rw [z_up_o _ _ (Or.inr (by decide)), z_up_o _ _ (Or.inl (by decide))]; exact hsz) ?_
    refine z_iconst (v := 1) dX11_through_353 (by decide) ?_
    refine z_isub dX11_through_354 (nI_pred n) ?_
    refine z_iald dX11_through_355 rfl rfl (by omega) (show _ = nI 2 by rw [z_up_o _ _ (Or.inl (by decide)), z_up_o _ _ (Or.inl (by decide))]; exact hkd) ?_
    refine z_iconst (v := nI 2) dX11_through_356 (by decide) ?_
    refine z_icmp_ne (tgt := 372) dX11_through_357 (by decide) (fun c_ => absurd (rfl) c_) (fun _ => ?_)
    refine z_bipush (v := (-3)) dX11_through_360 (by decide) ?_
    refine z_aload_n dX11_through_362 rfl rfl ?_
    refine z_getI dX11_through_363 fl_X11_209 rfl rfl (show _ = nI (n + 1) by rw [z_up_o _ _ (Or.inr (by decide)), z_up_o _ _ (Or.inl (by decide))]; exact hsz) ?_
    refine z_iconst (v := 1) dX11_through_366 (by decide) ?_
    refine z_isub dX11_through_367 (nI_pred n) ?_
    refine z_isub dX11_through_368 rfl ?_
    refine z_goto (tgt := 373) dX11_through_369 (by decide) ?_
    exact z_iret dX11_through_373 rfl rfl rfl
  · refine z_iconst (v := nI 2) dX11_through_248 (by decide) ?_
    refine z_goto (tgt := 253) dX11_through_249 (by decide) ?_
    refine z_istore dX11_through_253 (by decide) ?_
    show z_V _ _ _ _ _ _ _ _ _ [_, _, _, _, _, _, _, _] _ _
    refine z_iload_n dX11_through_255 rfl rfl ?_
    refine z_bipush (v := nI 14) dX11_through_256 (by decide) ?_
    refine z_icmp_ne (tgt := 310) dX11_through_258 (by decide) (fun _ => ?_) (fun c_ => absurd c_ (by decide +kernel))
    refine z_iload_n dX11_through_310 rfl rfl ?_
    refine z_bipush (v := nI 12) dX11_through_311 (by decide) ?_
    refine z_icmp_ne (tgt := 326) dX11_through_313 (by decide) (fun _ => ?_) (fun c_ => absurd c_ (by decide +kernel))
    refine z_iload_n dX11_through_326 rfl rfl ?_
    refine z_iconst (v := nI 3) dX11_through_327 (by decide) ?_
    refine z_bipush (v := nI 8) dX11_through_328 (by decide) ?_
    refine z_cS1 dX11_through_330 ml_X11_114 (sp_within) rfl rfl (Nat.le_of_ble_eq_true rfl) ?_
    refine z_if_eq (tgt := 372) dX11_through_333 (by decide) (fun c_ => absurd c_ (by decide +kernel)) (fun _ => ?_)
    refine z_aload_n dX11_through_336 rfl rfl ?_
    refine z_getI dX11_through_337 fl_X11_209 rfl rfl (show _ = nI (n + 1) by rw [z_up_o _ _ (Or.inr (by decide)), z_up_o _ _ (Or.inl (by decide))]; exact hsz) ?_
    refine z_iload dX11_through_340 rfl ?_
    refine z_icmp_le (tgt := 372) dX11_through_342 (by decide) (fun c_ => absurd c_ (nI_ge (by omega) (by omega))) (fun _ => ?_)
    refine z_aload_n dX11_through_345 rfl rfl ?_
    refine z_getR dX11_through_346 fl_X11_81 rfl rfl rfl ?_
    refine z_aload_n dX11_through_349 rfl rfl ?_
    refine z_getI dX11_through_350 fl_X11_209 rfl rfl (show _ = nI (n + 1) by rw [z_up_o _ _ (Or.inr (by decide)), z_up_o _ _ (Or.inl (by decide))]; exact hsz) ?_
    refine z_iconst (v := 1) dX11_through_353 (by decide) ?_
    refine z_isub dX11_through_354 (nI_pred n) ?_
    refine z_iald dX11_through_355 rfl rfl (by omega) (show _ = nI 2 by rw [z_up_o _ _ (Or.inl (by decide)), z_up_o _ _ (Or.inl (by decide))]; exact hkd) ?_
    refine z_iconst (v := nI 2) dX11_through_356 (by decide) ?_
    refine z_icmp_ne (tgt := 372) dX11_through_357 (by decide) (fun c_ => absurd (rfl) c_) (fun _ => ?_)
    refine z_bipush (v := (-3)) dX11_through_360 (by decide) ?_
    refine z_aload_n dX11_through_362 rfl rfl ?_
    refine z_getI dX11_through_363 fl_X11_209 rfl rfl (show _ = nI (n + 1) by rw [z_up_o _ _ (Or.inr (by decide)), z_up_o _ _ (Or.inl (by decide))]; exact hsz) ?_
    refine z_iconst (v := 1) dX11_through_366 (by decide) ?_
    refine z_isub dX11_through_367 (nI_pred n) ?_
    refine z_isub dX11_through_368 rfl ?_
    refine z_goto (tgt := 373) dX11_through_369 (by decide) ?_
    exact z_iret dX11_through_373 rfl rfl rfl
set_option maxRecDepth 100000 in
set_option maxHeartbeats 4000000 in
theorem sp_th3k {d : Nat} {σ : Nat → Nat → Int32} {τ : Nat → Nat → Int64} {j k n e : Nat} (hj : j < 30) (hk0 : σ 101 j = nI k) (hk : k < 40) (hn : σ 92 35 = nI n) (h40 : n < 40) (hop : σ 93 k = nI 3) (he : σ 92 44 = nI (e + 2)) (he8 : e + 2 ≤ 6) {b : Nat} (hb : σ 121 (e + 1) = nI b) (hb40 : b < 40) {a : Nat} (ha : σ 121 e = nI a) (ha40 : a < 40) (hsz : (cal (hg σ e) n 3 a b).2 92 35 = nI (n + 1)) (hkd : ¬ (cal (hg σ e) n 3 a b).2 113 n = nI 2) : z_MV M_X11_through (d + 2) 0 0 [.ref 92, .int (nI j)] (124, z_r0, σ, τ) (some (.int (0))) (124, z_r0, hg (z_up ((cal (hg σ e) n 3 a b).2) 121 e (nI (cal (hg σ e) n 3 a b).1)) (e + 1), τ) := by
  refine z_MV.of pn_X11_through (Nat.le_of_ble_eq_true rfl) (by simp [Value.category]) rfl ?_
  show z_V _ _ _ _ _ _ _ _ _ [_, _, _, _, _, _, _, _] _ _
  refine z_aload_n dX11_through_0 rfl rfl ?_
  refine z_getR dX11_through_1 fl_X11_41 rfl rfl rfl ?_
  refine z_iload_n dX11_through_4 rfl rfl ?_
  refine z_iald dX11_through_5 rfl rfl (by omega) hk0 ?_
  refine z_istore_n dX11_through_6 rfl (by decide) ?_
  show z_V _ _ _ _ _ _ _ _ _ [_, _, _, _, _, _, _, _] _ _
  refine z_aload_n dX11_through_7 rfl rfl ?_
  refine z_getR dX11_through_8 fl_X11_7 rfl rfl rfl ?_
  refine z_iload_n dX11_through_11 rfl rfl ?_
  refine z_iald dX11_through_12 rfl rfl (by omega) hop ?_
  refine z_istore_n dX11_through_13 rfl (by decide) ?_
  show z_V _ _ _ _ _ _ _ _ _ [_, _, _, _, _, _, _, _] _ _
  refine z_aload_n dX11_through_14 rfl rfl ?_
  refine z_getI dX11_through_15 fl_X11_209 rfl rfl hn ?_
  refine z_istore dX11_through_18 (by decide) ?_
  show z_V _ _ _ _ _ _ _ _ _ [_, _, _, _, _, _, _, _] _ _
  refine z_iload_n dX11_through_20 rfl rfl ?_
  refine z_cS1 dX11_through_21 ml_X11_133 (sp_rtakes (by decide)) rfl rfl (Nat.le_of_ble_eq_true rfl) ?_
  refine z_if_le (tgt := 41) dX11_through_24 (by decide) (fun c_ => absurd c_ (by decide +kernel)) (fun _ => ?_)
  refine z_aload_n dX11_through_27 rfl rfl ?_
  refine z_getR dX11_through_28 fl_X11_105 rfl rfl rfl ?_
  refine z_aload_n dX11_through_31 rfl rfl ?_
  refine z_getI dX11_through_32 fl_X11_216 rfl rfl he ?_
  refine z_iconst (v := 1) dX11_through_35 (by decide) ?_
  refine z_isub dX11_through_36 (nI_pred _) ?_
  refine z_iald dX11_through_37 rfl rfl (by omega) hb ?_
  refine z_goto (tgt := 42) dX11_through_38 (by decide) ?_
  refine z_istore dX11_through_42 (by decide) ?_
  show z_V _ _ _ _ _ _ _ _ _ [_, _, _, _, _, _, _, _] _ _
  refine z_iload_n dX11_through_44 rfl rfl ?_
  refine z_cS1 dX11_through_45 ml_X11_133 (sp_rtakes (by decide)) rfl rfl (Nat.le_of_ble_eq_true rfl) ?_
  refine z_iconst (v := 1) dX11_through_48 (by decide) ?_
  refine z_icmp_le (tgt := 66) dX11_through_49 (by decide) (fun c_ => absurd c_ (by decide +kernel)) (fun _ => ?_)
  refine z_aload_n dX11_through_52 rfl rfl ?_
  refine z_getR dX11_through_53 fl_X11_105 rfl rfl rfl ?_
  refine z_aload_n dX11_through_56 rfl rfl ?_
  refine z_getI dX11_through_57 fl_X11_216 rfl rfl he ?_
  refine z_iconst (v := nI 2) dX11_through_60 (by decide) ?_
  refine z_isub dX11_through_61 (show _ = nI e from pk_sub (Nat.le_add_left 2 e)) ?_
  refine z_iald dX11_through_62 rfl rfl (by omega) ha ?_
  refine z_goto (tgt := 67) dX11_through_63 (by decide) ?_
  refine z_istore dX11_through_67 (by decide) ?_
  show z_V _ _ _ _ _ _ _ _ _ [_, _, _, _, _, _, _, _] _ _
  refine z_aload_n dX11_through_69 rfl rfl ?_
  refine z_dup dX11_through_70 rfl ?_
  refine z_getI dX11_through_71 fl_X11_216 rfl rfl he ?_
  refine z_iload_n dX11_through_74 rfl rfl ?_
  refine z_cS1 dX11_through_75 ml_X11_133 (sp_rtakes (by decide)) rfl rfl (Nat.le_of_ble_eq_true rfl) ?_
  refine z_isub dX11_through_78 (show _ = nI e from pk_sub (Nat.le_add_left 2 e)) ?_
  refine z_putI dX11_through_79 fl_X11_216 rfl rfl (Or.inl rfl) rfl ?_
  show z_V _ _ _ _ _ _ _ _ _ _ _ (124, z_r0, hg σ e, τ)
  refine z_iload_n dX11_through_82 rfl rfl ?_
  refine z_if_ne (tgt := 108) dX11_through_83 (by decide) (fun _ => ?_) (fun c_ => absurd c_ (by decide +kernel))
  refine z_iload_n dX11_through_108 rfl rfl ?_
  refine z_iconst (v := 1) dX11_through_109 (by decide) ?_
  refine z_icmp_ne (tgt := 133) dX11_through_110 (by decide) (fun _ => ?_) (fun c_ => absurd c_ (by decide +kernel))
  refine z_iload_n dX11_through_133 rfl rfl ?_
  refine z_iconst (v := nI 2) dX11_through_134 (by decide) ?_
  refine z_icmp_ne (tgt := 151) dX11_through_135 (by decide) (fun _ => ?_) (fun c_ => absurd c_ (by decide +kernel))
  refine z_iload_n dX11_through_151 rfl rfl ?_
  refine z_iconst (v := nI 3) dX11_through_152 (by decide) ?_
  refine z_bipush (v := nI 8) dX11_through_153 (by decide) ?_
  refine z_cS1 dX11_through_155 ml_X11_114 (sp_within) rfl rfl (Nat.le_of_ble_eq_true rfl) ?_
  refine z_if_eq (tgt := 179) dX11_through_158 (by decide) (fun c_ => absurd c_ (by decide +kernel)) (fun _ => ?_)
  refine z_aload_n dX11_through_161 rfl rfl ?_
  refine z_getR dX11_through_162 fl_X11_105 rfl rfl rfl ?_
  refine z_aload_n dX11_through_165 rfl rfl ?_
  refine z_getI dX11_through_166 fl_X11_216 rfl rfl (show _ = nI e by simp [hg, z_up]) ?_
  refine z_aload_n dX11_through_169 rfl rfl ?_
  refine z_iload_n dX11_through_170 rfl rfl ?_
  refine z_iload dX11_through_171 rfl ?_
  refine z_iload dX11_through_173 rfl ?_
  refine z_cV1 dX11_through_175 ml_X11_219 (sp_calculated (show _ = nI n from hg_35.trans hn) h40 (by decide) (by decide) ha40 hb40) rfl ⟨by decide, rfl⟩ rfl rfl (Nat.le_of_ble_eq_true rfl) ?_
  refine z_iast dX11_through_178 rfl rfl (by omega) ?_
  refine z_iload_n dX11_through_179 rfl rfl ?_
  refine z_bipush (v := nI 9) dX11_through_180 (by decide) ?_
  refine z_icmp_eq (tgt := 191) dX11_through_182 (by decide) (fun c_ => absurd c_ (by decide +kernel)) (fun _ => ?_)
  refine z_iload_n dX11_through_185 rfl rfl ?_
  refine z_bipush (v := nI 11) dX11_through_186 (by decide) ?_
  refine z_icmp_ne (tgt := 226) dX11_through_188 (by decide) (fun _ => ?_) (fun c_ => absurd c_ (by decide +kernel))
  refine z_aload_n dX11_through_226 rfl rfl ?_
  refine z_dup dX11_through_227 rfl ?_
  refine z_getI dX11_through_228 fl_X11_216 rfl rfl (show _ = nI e by rw [z_up_o _ _ (Or.inl (by decide)), cal_44]; simp [hg, z_up]) ?_
  refine z_iload_n dX11_through_231 rfl rfl ?_
  refine z_cS1 dX11_through_232 ml_X11_136 (sp_rleaves (by decide)) rfl rfl (Nat.le_of_ble_eq_true rfl) ?_
  refine z_iadd dX11_through_235 (nI_add _ _) ?_
  refine z_putI dX11_through_236 fl_X11_216 rfl rfl (Or.inl rfl) rfl ?_
  refine z_aload_n dX11_through_239 rfl rfl ?_
  refine z_getR dX11_through_240 fl_X11_44 rfl rfl rfl ?_
  refine z_iload_n dX11_through_243 rfl rfl ?_
  refine z_zald dX11_through_244 rfl rfl (by omega) rfl ?_
  refine z_if_eq (tgt := 252) dX11_through_245 (by decide) (fun c245 => ?_) (fun c245 => ?_)
  · refine z_iconst (v := 1) dX11_through_252 (by decide) ?_
    refine z_istore dX11_through_253 (by decide) ?_
    show z_V _ _ _ _ _ _ _ _ _ [_, _, _, _, _, _, _, _] _ _
    refine z_iload_n dX11_through_255 rfl rfl ?_
    refine z_bipush (v := nI 14) dX11_through_256 (by decide) ?_
    refine z_icmp_ne (tgt := 310) dX11_through_258 (by decide) (fun _ => ?_) (fun c_ => absurd c_ (by decide +kernel))
    refine z_iload_n dX11_through_310 rfl rfl ?_
    refine z_bipush (v := nI 12) dX11_through_311 (by decide) ?_
    refine z_icmp_ne (tgt := 326) dX11_through_313 (by decide) (fun _ => ?_) (fun c_ => absurd c_ (by decide +kernel))
    refine z_iload_n dX11_through_326 rfl rfl ?_
    refine z_iconst (v := nI 3) dX11_through_327 (by decide) ?_
    refine z_bipush (v := nI 8) dX11_through_328 (by decide) ?_
    refine z_cS1 dX11_through_330 ml_X11_114 (sp_within) rfl rfl (Nat.le_of_ble_eq_true rfl) ?_
    refine z_if_eq (tgt := 372) dX11_through_333 (by decide) (fun c_ => absurd c_ (by decide +kernel)) (fun _ => ?_)
    refine z_aload_n dX11_through_336 rfl rfl ?_
    refine z_getI dX11_through_337 fl_X11_209 rfl rfl (show _ = nI (n + 1) by rw [z_up_o _ _ (Or.inr (by decide)), z_up_o _ _ (Or.inl (by decide))]; exact hsz) ?_
    refine z_iload dX11_through_340 rfl ?_
    refine z_icmp_le (tgt := 372) dX11_through_342 (by decide) (fun c_ => absurd c_ (nI_ge (by omega) (by omega))) (fun _ => ?_)
    refine z_aload_n dX11_through_345 rfl rfl ?_
    refine z_getR dX11_through_346 fl_X11_81 rfl rfl rfl ?_
    refine z_aload_n dX11_through_349 rfl rfl ?_
    refine z_getI dX11_through_350 fl_X11_209 rfl rfl (show _ = nI (n + 1) by rw [z_up_o _ _ (Or.inr (by decide)), z_up_o _ _ (Or.inl (by decide))]; exact hsz) ?_
    refine z_iconst (v := 1) dX11_through_353 (by decide) ?_
    refine z_isub dX11_through_354 (nI_pred n) ?_
    refine z_iald dX11_through_355 rfl rfl (by omega) (show _ = (cal (hg σ e) n 3 a b).2 113 n by rw [z_up_o _ _ (Or.inl (by decide)), z_up_o _ _ (Or.inl (by decide))]) ?_
    refine z_iconst (v := nI 2) dX11_through_356 (by decide) ?_
    refine z_icmp_ne (tgt := 372) dX11_through_357 (by decide) (fun _ => ?_) (fun c_ => absurd c_ (hkd))
    refine z_iconst (v := 0) dX11_through_372 (by decide) ?_
    exact z_iret dX11_through_373 rfl rfl rfl
  · refine z_iconst (v := nI 2) dX11_through_248 (by decide) ?_
    refine z_goto (tgt := 253) dX11_through_249 (by decide) ?_
    refine z_istore dX11_through_253 (by decide) ?_
    show z_V _ _ _ _ _ _ _ _ _ [_, _, _, _, _, _, _, _] _ _
    refine z_iload_n dX11_through_255 rfl rfl ?_
    refine z_bipush (v := nI 14) dX11_through_256 (by decide) ?_
    refine z_icmp_ne (tgt := 310) dX11_through_258 (by decide) (fun _ => ?_) (fun c_ => absurd c_ (by decide +kernel))
    refine z_iload_n dX11_through_310 rfl rfl ?_
    refine z_bipush (v := nI 12) dX11_through_311 (by decide) ?_
    refine z_icmp_ne (tgt := 326) dX11_through_313 (by decide) (fun _ => ?_) (fun c_ => absurd c_ (by decide +kernel))
    refine z_iload_n dX11_through_326 rfl rfl ?_
    refine z_iconst (v := nI 3) dX11_through_327 (by decide) ?_
    refine z_bipush (v := nI 8) dX11_through_328 (by decide) ?_
    refine z_cS1 dX11_through_330 ml_X11_114 (sp_within) rfl rfl (Nat.le_of_ble_eq_true rfl) ?_
    refine z_if_eq (tgt := 372) dX11_through_333 (by decide) (fun c_ => absurd c_ (by decide +kernel)) (fun _ => ?_)
    refine z_aload_n dX11_through_336 rfl rfl ?_
    refine z_getI dX11_through_337 fl_X11_209 rfl rfl (show _ = nI (n + 1) by rw [z_up_o _ _ (Or.inr (by decide)), z_up_o _ _ (Or.inl (by decide))]; exact hsz) ?_
    refine z_iload dX11_through_340 rfl ?_
    refine z_icmp_le (tgt := 372) dX11_through_342 (by decide) (fun c_ => absurd c_ (nI_ge (by omega) (by omega))) (fun _ => ?_)
    refine z_aload_n dX11_through_345 rfl rfl ?_
    refine z_getR dX11_through_346 fl_X11_81 rfl rfl rfl ?_
    refine z_aload_n dX11_through_349 rfl rfl ?_
    refine z_getI dX11_through_350 fl_X11_209 rfl rfl (show _ = nI (n + 1) by rw [z_up_o _ _ (Or.inr (by decide)), z_up_o _ _ (Or.inl (by decide))]; exact hsz) ?_
    refine z_iconst (v := 1) dX11_through_353 (by decide) ?_
    refine z_isub dX11_through_354 (nI_pred n) ?_
    refine z_iald dX11_through_355 rfl rfl (by omega) (show _ = (cal (hg σ e) n 3 a b).2 113 n by rw [z_up_o _ _ (Or.inl (by decide)), z_up_o _ _ (Or.inl (by decide))]) ?_
    refine z_iconst (v := nI 2) dX11_through_356 (by decide) ?_
    refine z_icmp_ne (tgt := 372) dX11_through_357 (by decide) (fun _ => ?_) (fun c_ => absurd c_ (hkd))
    refine z_iconst (v := 0) dX11_through_372 (by decide) ?_
    exact z_iret dX11_through_373 rfl rfl rfl
set_option maxRecDepth 100000 in
set_option maxHeartbeats 4000000 in
theorem sp_th4s {d : Nat} {σ : Nat → Nat → Int32} {τ : Nat → Nat → Int64} {j k n e : Nat} (hj : j < 30) (hk0 : σ 101 j = nI k) (hk : k < 40) (hn : σ 92 35 = nI n) (h40 : n < 40) (hop : σ 93 k = nI 4) (he : σ 92 44 = nI (e + 2)) (he8 : e + 2 ≤ 6) {b : Nat} (hb : σ 121 (e + 1) = nI b) (hb40 : b < 40) {a : Nat} (ha : σ 121 e = nI a) (ha40 : a < 40) (hsz : (cal (hg σ e) n 4 a b).2 92 35 = nI n) : z_MV M_X11_through (d + 2) 0 0 [.ref 92, .int (nI j)] (124, z_r0, σ, τ) (some (.int (0))) (124, z_r0, hg (z_up ((cal (hg σ e) n 4 a b).2) 121 e (nI (cal (hg σ e) n 4 a b).1)) (e + 1), τ) := by
  refine z_MV.of pn_X11_through (Nat.le_of_ble_eq_true rfl) (by simp [Value.category]) rfl ?_
  show z_V _ _ _ _ _ _ _ _ _ [_, _, _, _, _, _, _, _] _ _
  refine z_aload_n dX11_through_0 rfl rfl ?_
  refine z_getR dX11_through_1 fl_X11_41 rfl rfl rfl ?_
  refine z_iload_n dX11_through_4 rfl rfl ?_
  refine z_iald dX11_through_5 rfl rfl (by omega) hk0 ?_
  refine z_istore_n dX11_through_6 rfl (by decide) ?_
  show z_V _ _ _ _ _ _ _ _ _ [_, _, _, _, _, _, _, _] _ _
  refine z_aload_n dX11_through_7 rfl rfl ?_
  refine z_getR dX11_through_8 fl_X11_7 rfl rfl rfl ?_
  refine z_iload_n dX11_through_11 rfl rfl ?_
  refine z_iald dX11_through_12 rfl rfl (by omega) hop ?_
  refine z_istore_n dX11_through_13 rfl (by decide) ?_
  show z_V _ _ _ _ _ _ _ _ _ [_, _, _, _, _, _, _, _] _ _
  refine z_aload_n dX11_through_14 rfl rfl ?_
  refine z_getI dX11_through_15 fl_X11_209 rfl rfl hn ?_
  refine z_istore dX11_through_18 (by decide) ?_
  show z_V _ _ _ _ _ _ _ _ _ [_, _, _, _, _, _, _, _] _ _
  refine z_iload_n dX11_through_20 rfl rfl ?_
  refine z_cS1 dX11_through_21 ml_X11_133 (sp_rtakes (by decide)) rfl rfl (Nat.le_of_ble_eq_true rfl) ?_
  refine z_if_le (tgt := 41) dX11_through_24 (by decide) (fun c_ => absurd c_ (by decide +kernel)) (fun _ => ?_)
  refine z_aload_n dX11_through_27 rfl rfl ?_
  refine z_getR dX11_through_28 fl_X11_105 rfl rfl rfl ?_
  refine z_aload_n dX11_through_31 rfl rfl ?_
  refine z_getI dX11_through_32 fl_X11_216 rfl rfl he ?_
  refine z_iconst (v := 1) dX11_through_35 (by decide) ?_
  refine z_isub dX11_through_36 (nI_pred _) ?_
  refine z_iald dX11_through_37 rfl rfl (by omega) hb ?_
  refine z_goto (tgt := 42) dX11_through_38 (by decide) ?_
  refine z_istore dX11_through_42 (by decide) ?_
  show z_V _ _ _ _ _ _ _ _ _ [_, _, _, _, _, _, _, _] _ _
  refine z_iload_n dX11_through_44 rfl rfl ?_
  refine z_cS1 dX11_through_45 ml_X11_133 (sp_rtakes (by decide)) rfl rfl (Nat.le_of_ble_eq_true rfl) ?_
  refine z_iconst (v := 1) dX11_through_48 (by decide) ?_
  refine z_icmp_le (tgt := 66) dX11_through_49 (by decide) (fun c_ => absurd c_ (by decide +kernel)) (fun _ => ?_)
  refine z_aload_n dX11_through_52 rfl rfl ?_
  refine z_getR dX11_through_53 fl_X11_105 rfl rfl rfl ?_
  refine z_aload_n dX11_through_56 rfl rfl ?_
  refine z_getI dX11_through_57 fl_X11_216 rfl rfl he ?_
  refine z_iconst (v := nI 2) dX11_through_60 (by decide) ?_
  refine z_isub dX11_through_61 (show _ = nI e from pk_sub (Nat.le_add_left 2 e)) ?_
  refine z_iald dX11_through_62 rfl rfl (by omega) ha ?_
  refine z_goto (tgt := 67) dX11_through_63 (by decide) ?_
  refine z_istore dX11_through_67 (by decide) ?_
  show z_V _ _ _ _ _ _ _ _ _ [_, _, _, _, _, _, _, _] _ _
  refine z_aload_n dX11_through_69 rfl rfl ?_
  refine z_dup dX11_through_70 rfl ?_
  refine z_getI dX11_through_71 fl_X11_216 rfl rfl he ?_
  refine z_iload_n dX11_through_74 rfl rfl ?_
  refine z_cS1 dX11_through_75 ml_X11_133 (sp_rtakes (by decide)) rfl rfl (Nat.le_of_ble_eq_true rfl) ?_
  refine z_isub dX11_through_78 (show _ = nI e from pk_sub (Nat.le_add_left 2 e)) ?_
  refine z_putI dX11_through_79 fl_X11_216 rfl rfl (Or.inl rfl) rfl ?_
  show z_V _ _ _ _ _ _ _ _ _ _ _ (124, z_r0, hg σ e, τ)
  refine z_iload_n dX11_through_82 rfl rfl ?_
  refine z_if_ne (tgt := 108) dX11_through_83 (by decide) (fun _ => ?_) (fun c_ => absurd c_ (by decide +kernel))
  refine z_iload_n dX11_through_108 rfl rfl ?_
  refine z_iconst (v := 1) dX11_through_109 (by decide) ?_
  refine z_icmp_ne (tgt := 133) dX11_through_110 (by decide) (fun _ => ?_) (fun c_ => absurd c_ (by decide +kernel))
  refine z_iload_n dX11_through_133 rfl rfl ?_
  refine z_iconst (v := nI 2) dX11_through_134 (by decide) ?_
  refine z_icmp_ne (tgt := 151) dX11_through_135 (by decide) (fun _ => ?_) (fun c_ => absurd c_ (by decide +kernel))
  refine z_iload_n dX11_through_151 rfl rfl ?_
  refine z_iconst (v := nI 3) dX11_through_152 (by decide) ?_
  refine z_bipush (v := nI 8) dX11_through_153 (by decide) ?_
  refine z_cS1 dX11_through_155 ml_X11_114 (sp_within) rfl rfl (Nat.le_of_ble_eq_true rfl) ?_
  refine z_if_eq (tgt := 179) dX11_through_158 (by decide) (fun c_ => absurd c_ (by decide +kernel)) (fun _ => ?_)
  refine z_aload_n dX11_through_161 rfl rfl ?_
  refine z_getR dX11_through_162 fl_X11_105 rfl rfl rfl ?_
  refine z_aload_n dX11_through_165 rfl rfl ?_
  refine z_getI dX11_through_166 fl_X11_216 rfl rfl (show _ = nI e by simp [hg, z_up]) ?_
  refine z_aload_n dX11_through_169 rfl rfl ?_
  refine z_iload_n dX11_through_170 rfl rfl ?_
  refine z_iload dX11_through_171 rfl ?_
  refine z_iload dX11_through_173 rfl ?_
  refine z_cV1 dX11_through_175 ml_X11_219 (sp_calculated (show _ = nI n from hg_35.trans hn) h40 (by decide) (by decide) ha40 hb40) rfl ⟨by decide, rfl⟩ rfl rfl (Nat.le_of_ble_eq_true rfl) ?_
  refine z_iast dX11_through_178 rfl rfl (by omega) ?_
  refine z_iload_n dX11_through_179 rfl rfl ?_
  refine z_bipush (v := nI 9) dX11_through_180 (by decide) ?_
  refine z_icmp_eq (tgt := 191) dX11_through_182 (by decide) (fun c_ => absurd c_ (by decide +kernel)) (fun _ => ?_)
  refine z_iload_n dX11_through_185 rfl rfl ?_
  refine z_bipush (v := nI 11) dX11_through_186 (by decide) ?_
  refine z_icmp_ne (tgt := 226) dX11_through_188 (by decide) (fun _ => ?_) (fun c_ => absurd c_ (by decide +kernel))
  refine z_aload_n dX11_through_226 rfl rfl ?_
  refine z_dup dX11_through_227 rfl ?_
  refine z_getI dX11_through_228 fl_X11_216 rfl rfl (show _ = nI e by rw [z_up_o _ _ (Or.inl (by decide)), cal_44]; simp [hg, z_up]) ?_
  refine z_iload_n dX11_through_231 rfl rfl ?_
  refine z_cS1 dX11_through_232 ml_X11_136 (sp_rleaves (by decide)) rfl rfl (Nat.le_of_ble_eq_true rfl) ?_
  refine z_iadd dX11_through_235 (nI_add _ _) ?_
  refine z_putI dX11_through_236 fl_X11_216 rfl rfl (Or.inl rfl) rfl ?_
  refine z_aload_n dX11_through_239 rfl rfl ?_
  refine z_getR dX11_through_240 fl_X11_44 rfl rfl rfl ?_
  refine z_iload_n dX11_through_243 rfl rfl ?_
  refine z_zald dX11_through_244 rfl rfl (by omega) rfl ?_
  refine z_if_eq (tgt := 252) dX11_through_245 (by decide) (fun c245 => ?_) (fun c245 => ?_)
  · refine z_iconst (v := 1) dX11_through_252 (by decide) ?_
    refine z_istore dX11_through_253 (by decide) ?_
    show z_V _ _ _ _ _ _ _ _ _ [_, _, _, _, _, _, _, _] _ _
    refine z_iload_n dX11_through_255 rfl rfl ?_
    refine z_bipush (v := nI 14) dX11_through_256 (by decide) ?_
    refine z_icmp_ne (tgt := 310) dX11_through_258 (by decide) (fun _ => ?_) (fun c_ => absurd c_ (by decide +kernel))
    refine z_iload_n dX11_through_310 rfl rfl ?_
    refine z_bipush (v := nI 12) dX11_through_311 (by decide) ?_
    refine z_icmp_ne (tgt := 326) dX11_through_313 (by decide) (fun _ => ?_) (fun c_ => absurd c_ (by decide +kernel))
    refine z_iload_n dX11_through_326 rfl rfl ?_
    refine z_iconst (v := nI 3) dX11_through_327 (by decide) ?_
    refine z_bipush (v := nI 8) dX11_through_328 (by decide) ?_
    refine z_cS1 dX11_through_330 ml_X11_114 (sp_within) rfl rfl (Nat.le_of_ble_eq_true rfl) ?_
    refine z_if_eq (tgt := 372) dX11_through_333 (by decide) (fun c_ => absurd c_ (by decide +kernel)) (fun _ => ?_)
    refine z_aload_n dX11_through_336 rfl rfl ?_
    refine z_getI dX11_through_337 fl_X11_209 rfl rfl (show _ = nI n by rw [z_up_o _ _ (Or.inr (by decide)), z_up_o _ _ (Or.inl (by decide))]; exact hsz) ?_
    refine z_iload dX11_through_340 rfl ?_
    refine z_icmp_le (tgt := 372) dX11_through_342 (by decide) (fun _ => ?_) (fun c_ => absurd (Int32.le_refl _) c_)
    refine z_iconst (v := 0) dX11_through_372 (by decide) ?_
    exact z_iret dX11_through_373 rfl rfl rfl
  · refine z_iconst (v := nI 2) dX11_through_248 (by decide) ?_
    refine z_goto (tgt := 253) dX11_through_249 (by decide) ?_
    refine z_istore dX11_through_253 (by decide) ?_
    show z_V _ _ _ _ _ _ _ _ _ [_, _, _, _, _, _, _, _] _ _
    refine z_iload_n dX11_through_255 rfl rfl ?_
    refine z_bipush (v := nI 14) dX11_through_256 (by decide) ?_
    refine z_icmp_ne (tgt := 310) dX11_through_258 (by decide) (fun _ => ?_) (fun c_ => absurd c_ (by decide +kernel))
    refine z_iload_n dX11_through_310 rfl rfl ?_
    refine z_bipush (v := nI 12) dX11_through_311 (by decide) ?_
    refine z_icmp_ne (tgt := 326) dX11_through_313 (by decide) (fun _ => ?_) (fun c_ => absurd c_ (by decide +kernel))
    refine z_iload_n dX11_through_326 rfl rfl ?_
    refine z_iconst (v := nI 3) dX11_through_327 (by decide) ?_
    refine z_bipush (v := nI 8) dX11_through_328 (by decide) ?_
    refine z_cS1 dX11_through_330 ml_X11_114 (sp_within) rfl rfl (Nat.le_of_ble_eq_true rfl) ?_
    refine z_if_eq (tgt := 372) dX11_through_333 (by decide) (fun c_ => absurd c_ (by decide +kernel)) (fun _ => ?_)
    refine z_aload_n dX11_through_336 rfl rfl ?_
    refine z_getI dX11_through_337 fl_X11_209 rfl rfl (show _ = nI n by rw [z_up_o _ _ (Or.inr (by decide)), z_up_o _ _ (Or.inl (by decide))]; exact hsz) ?_
    refine z_iload dX11_through_340 rfl ?_
    refine z_icmp_le (tgt := 372) dX11_through_342 (by decide) (fun _ => ?_) (fun c_ => absurd (Int32.le_refl _) c_)
    refine z_iconst (v := 0) dX11_through_372 (by decide) ?_
    exact z_iret dX11_through_373 rfl rfl rfl
set_option maxRecDepth 100000 in
set_option maxHeartbeats 4000000 in
theorem sp_th4n {d : Nat} {σ : Nat → Nat → Int32} {τ : Nat → Nat → Int64} {j k n e : Nat} (hj : j < 30) (hk0 : σ 101 j = nI k) (hk : k < 40) (hn : σ 92 35 = nI n) (h40 : n < 40) (hop : σ 93 k = nI 4) (he : σ 92 44 = nI (e + 2)) (he8 : e + 2 ≤ 6) {b : Nat} (hb : σ 121 (e + 1) = nI b) (hb40 : b < 40) {a : Nat} (ha : σ 121 e = nI a) (ha40 : a < 40) (hsz : (cal (hg σ e) n 4 a b).2 92 35 = nI (n + 1)) (hkd : (cal (hg σ e) n 4 a b).2 113 n = nI 2) : z_MV M_X11_through (d + 2) 0 0 [.ref 92, .int (nI j)] (124, z_r0, σ, τ) (some (.int (-3 - nI n))) (124, z_r0, hg (z_up ((cal (hg σ e) n 4 a b).2) 121 e (nI (cal (hg σ e) n 4 a b).1)) (e + 1), τ) := by
  refine z_MV.of pn_X11_through (Nat.le_of_ble_eq_true rfl) (by simp [Value.category]) rfl ?_
  show z_V _ _ _ _ _ _ _ _ _ [_, _, _, _, _, _, _, _] _ _
  refine z_aload_n dX11_through_0 rfl rfl ?_
  refine z_getR dX11_through_1 fl_X11_41 rfl rfl rfl ?_
  refine z_iload_n dX11_through_4 rfl rfl ?_
  refine z_iald dX11_through_5 rfl rfl (by omega) hk0 ?_
  refine z_istore_n dX11_through_6 rfl (by decide) ?_
  show z_V _ _ _ _ _ _ _ _ _ [_, _, _, _, _, _, _, _] _ _
  refine z_aload_n dX11_through_7 rfl rfl ?_
  refine z_getR dX11_through_8 fl_X11_7 rfl rfl rfl ?_
  refine z_iload_n dX11_through_11 rfl rfl ?_
  refine z_iald dX11_through_12 rfl rfl (by omega) hop ?_
  refine z_istore_n dX11_through_13 rfl (by decide) ?_
  show z_V _ _ _ _ _ _ _ _ _ [_, _, _, _, _, _, _, _] _ _
  refine z_aload_n dX11_through_14 rfl rfl ?_
  refine z_getI dX11_through_15 fl_X11_209 rfl rfl hn ?_
  refine z_istore dX11_through_18 (by decide) ?_
  show z_V _ _ _ _ _ _ _ _ _ [_, _, _, _, _, _, _, _] _ _
  refine z_iload_n dX11_through_20 rfl rfl ?_
  refine z_cS1 dX11_through_21 ml_X11_133 (sp_rtakes (by decide)) rfl rfl (Nat.le_of_ble_eq_true rfl) ?_
  refine z_if_le (tgt := 41) dX11_through_24 (by decide) (fun c_ => absurd c_ (by decide +kernel)) (fun _ => ?_)
  refine z_aload_n dX11_through_27 rfl rfl ?_
  refine z_getR dX11_through_28 fl_X11_105 rfl rfl rfl ?_
  refine z_aload_n dX11_through_31 rfl rfl ?_
  refine z_getI dX11_through_32 fl_X11_216 rfl rfl he ?_
  refine z_iconst (v := 1) dX11_through_35 (by decide) ?_
  refine z_isub dX11_through_36 (nI_pred _) ?_
  refine z_iald dX11_through_37 rfl rfl (by omega) hb ?_
  refine z_goto (tgt := 42) dX11_through_38 (by decide) ?_
  refine z_istore dX11_through_42 (by decide) ?_
  show z_V _ _ _ _ _ _ _ _ _ [_, _, _, _, _, _, _, _] _ _
  refine z_iload_n dX11_through_44 rfl rfl ?_
  refine z_cS1 dX11_through_45 ml_X11_133 (sp_rtakes (by decide)) rfl rfl (Nat.le_of_ble_eq_true rfl) ?_
  refine z_iconst (v := 1) dX11_through_48 (by decide) ?_
  refine z_icmp_le (tgt := 66) dX11_through_49 (by decide) (fun c_ => absurd c_ (by decide +kernel)) (fun _ => ?_)
  refine z_aload_n dX11_through_52 rfl rfl ?_
  refine z_getR dX11_through_53 fl_X11_105 rfl rfl rfl ?_
  refine z_aload_n dX11_through_56 rfl rfl ?_
  refine z_getI dX11_through_57 fl_X11_216 rfl rfl he ?_
  refine z_iconst (v := nI 2) dX11_through_60 (by decide) ?_
  refine z_isub dX11_through_61 (show _ = nI e from pk_sub (Nat.le_add_left 2 e)) ?_
  refine z_iald dX11_through_62 rfl rfl (by omega) ha ?_
  refine z_goto (tgt := 67) dX11_through_63 (by decide) ?_
  refine z_istore dX11_through_67 (by decide) ?_
  show z_V _ _ _ _ _ _ _ _ _ [_, _, _, _, _, _, _, _] _ _
  refine z_aload_n dX11_through_69 rfl rfl ?_
  refine z_dup dX11_through_70 rfl ?_
  refine z_getI dX11_through_71 fl_X11_216 rfl rfl he ?_
  refine z_iload_n dX11_through_74 rfl rfl ?_
  refine z_cS1 dX11_through_75 ml_X11_133 (sp_rtakes (by decide)) rfl rfl (Nat.le_of_ble_eq_true rfl) ?_
  refine z_isub dX11_through_78 (show _ = nI e from pk_sub (Nat.le_add_left 2 e)) ?_
  refine z_putI dX11_through_79 fl_X11_216 rfl rfl (Or.inl rfl) rfl ?_
  show z_V _ _ _ _ _ _ _ _ _ _ _ (124, z_r0, hg σ e, τ)
  refine z_iload_n dX11_through_82 rfl rfl ?_
  refine z_if_ne (tgt := 108) dX11_through_83 (by decide) (fun _ => ?_) (fun c_ => absurd c_ (by decide +kernel))
  refine z_iload_n dX11_through_108 rfl rfl ?_
  refine z_iconst (v := 1) dX11_through_109 (by decide) ?_
  refine z_icmp_ne (tgt := 133) dX11_through_110 (by decide) (fun _ => ?_) (fun c_ => absurd c_ (by decide +kernel))
  refine z_iload_n dX11_through_133 rfl rfl ?_
  refine z_iconst (v := nI 2) dX11_through_134 (by decide) ?_
  refine z_icmp_ne (tgt := 151) dX11_through_135 (by decide) (fun _ => ?_) (fun c_ => absurd c_ (by decide +kernel))
  refine z_iload_n dX11_through_151 rfl rfl ?_
  refine z_iconst (v := nI 3) dX11_through_152 (by decide) ?_
  refine z_bipush (v := nI 8) dX11_through_153 (by decide) ?_
  refine z_cS1 dX11_through_155 ml_X11_114 (sp_within) rfl rfl (Nat.le_of_ble_eq_true rfl) ?_
  refine z_if_eq (tgt := 179) dX11_through_158 (by decide) (fun c_ => absurd c_ (by decide +kernel)) (fun _ => ?_)
  refine z_aload_n dX11_through_161 rfl rfl ?_
  refine z_getR dX11_through_162 fl_X11_105 rfl rfl rfl ?_
  refine z_aload_n dX11_through_165 rfl rfl ?_
  refine z_getI dX11_through_166 fl_X11_216 rfl rfl (show _ = nI e by simp [hg, z_up]) ?_
  refine z_aload_n dX11_through_169 rfl rfl ?_
  refine z_iload_n dX11_through_170 rfl rfl ?_
  refine z_iload dX11_through_171 rfl ?_
  refine z_iload dX11_through_173 rfl ?_
  refine z_cV1 dX11_through_175 ml_X11_219 (sp_calculated (show _ = nI n from hg_35.trans hn) h40 (by decide) (by decide) ha40 hb40) rfl ⟨by decide, rfl⟩ rfl rfl (Nat.le_of_ble_eq_true rfl) ?_
  refine z_iast dX11_through_178 rfl rfl (by omega) ?_
  refine z_iload_n dX11_through_179 rfl rfl ?_
  refine z_bipush (v := nI 9) dX11_through_180 (by decide) ?_
  refine z_icmp_eq (tgt := 191) dX11_through_182 (by decide) (fun c_ => absurd c_ (by decide +kernel)) (fun _ => ?_)
  refine z_iload_n dX11_through_185 rfl rfl ?_
  refine z_bipush (v := nI 11) dX11_through_186 (by decide) ?_
  refine z_icmp_ne (tgt := 226) dX11_through_188 (by decide) (fun _ => ?_) (fun c_ => absurd c_ (by decide +kernel))
  refine z_aload_n dX11_through_226 rfl rfl ?_
  refine z_dup dX11_through_227 rfl ?_
  refine z_getI dX11_through_228 fl_X11_216 rfl rfl (show _ = nI e by rw [z_up_o _ _ (Or.inl (by decide)), cal_44]; simp [hg, z_up]) ?_
  refine z_iload_n dX11_through_231 rfl rfl ?_
  refine z_cS1 dX11_through_232 ml_X11_136 (sp_rleaves (by decide)) rfl rfl (Nat.le_of_ble_eq_true rfl) ?_
  refine z_iadd dX11_through_235 (nI_add _ _) ?_
  refine z_putI dX11_through_236 fl_X11_216 rfl rfl (Or.inl rfl) rfl ?_
  refine z_aload_n dX11_through_239 rfl rfl ?_
  refine z_getR dX11_through_240 fl_X11_44 rfl rfl rfl ?_
  refine z_iload_n dX11_through_243 rfl rfl ?_
  refine z_zald dX11_through_244 rfl rfl (by omega) rfl ?_
  refine z_if_eq (tgt := 252) dX11_through_245 (by decide) (fun c245 => ?_) (fun c245 => ?_)
  · refine z_iconst (v := 1) dX11_through_252 (by decide) ?_
    refine z_istore dX11_through_253 (by decide) ?_
    show z_V _ _ _ _ _ _ _ _ _ [_, _, _, _, _, _, _, _] _ _
    refine z_iload_n dX11_through_255 rfl rfl ?_
    refine z_bipush (v := nI 14) dX11_through_256 (by decide) ?_
    refine z_icmp_ne (tgt := 310) dX11_through_258 (by decide) (fun _ => ?_) (fun c_ => absurd c_ (by decide +kernel))
    refine z_iload_n dX11_through_310 rfl rfl ?_
    refine z_bipush (v := nI 12) dX11_through_311 (by decide) ?_
    refine z_icmp_ne (tgt := 326) dX11_through_313 (by decide) (fun _ => ?_) (fun c_ => absurd c_ (by decide +kernel))
    refine z_iload_n dX11_through_326 rfl rfl ?_
    refine z_iconst (v := nI 3) dX11_through_327 (by decide) ?_
    refine z_bipush (v := nI 8) dX11_through_328 (by decide) ?_
    refine z_cS1 dX11_through_330 ml_X11_114 (sp_within) rfl rfl (Nat.le_of_ble_eq_true rfl) ?_
    refine z_if_eq (tgt := 372) dX11_through_333 (by decide) (fun c_ => absurd c_ (by decide +kernel)) (fun _ => ?_)
    refine z_aload_n dX11_through_336 rfl rfl ?_
    refine z_getI dX11_through_337 fl_X11_209 rfl rfl (show _ = nI (n + 1) by rw [z_up_o _ _ (Or.inr (by decide)), z_up_o _ _ (Or.inl (by decide))]; exact hsz) ?_
    refine z_iload dX11_through_340 rfl ?_
    refine z_icmp_le (tgt := 372) dX11_through_342 (by decide) (fun c_ => absurd c_ (nI_ge (by omega) (by omega))) (fun _ => ?_)
    refine z_aload_n dX11_through_345 rfl rfl ?_
    refine z_getR dX11_through_346 fl_X11_81 rfl rfl rfl ?_
    refine z_aload_n dX11_through_349 rfl rfl ?_
    refine z_getI dX11_through_350 fl_X11_209 rfl rfl (show _ = nI (n + 1) by rw [z_up_o _ _ (Or.inr (by decide)), z_up_o _ _ (Or.inl (by decide))]; exact hsz) ?_
    refine z_iconst (v := 1) dX11_through_353 (by decide) ?_
    refine z_isub dX11_through_354 (nI_pred n) ?_
    refine z_iald dX11_through_355 rfl rfl (by omega) (show _ = nI 2 by rw [z_up_o _ _ (Or.inl (by decide)), z_up_o _ _ (Or.inl (by decide))]; exact hkd) ?_
    refine z_iconst (v := nI 2) dX11_through_356 (by decide) ?_
    refine z_icmp_ne (tgt := 372) dX11_through_357 (by decide) (fun c_ => absurd (rfl) c_) (fun _ => ?_)
    refine z_bipush (v := (-3)) dX11_through_360 (by decide) ?_
    refine z_aload_n dX11_through_362 rfl rfl ?_
    refine z_getI dX11_through_363 fl_X11_209 rfl rfl (show _ = nI (n + 1) by rw [z_up_o _ _ (Or.inr (by decide)), z_up_o _ _ (Or.inl (by decide))]; exact hsz) ?_
    refine z_iconst (v := 1) dX11_through_366 (by decide) ?_
    refine z_isub dX11_through_367 (nI_pred n) ?_
    refine z_isub dX11_through_368 rfl ?_
    refine z_goto (tgt := 373) dX11_through_369 (by decide) ?_
    exact z_iret dX11_through_373 rfl rfl rfl
  · refine z_iconst (v := nI 2) dX11_through_248 (by decide) ?_
    refine z_goto (tgt := 253) dX11_through_249 (by decide) ?_
    refine z_istore dX11_through_253 (by decide) ?_
    show z_V _ _ _ _ _ _ _ _ _ [_, _, _, _, _, _, _, _] _ _
    refine z_iload_n dX11_through_255 rfl rfl ?_
    refine z_bipush (v := nI 14) dX11_through_256 (by decide) ?_
    refine z_icmp_ne (tgt := 310) dX11_through_258 (by decide) (fun _ => ?_) (fun c_ => absurd c_ (by decide +kernel))
    refine z_iload_n dX11_through_310 rfl rfl ?_
    refine z_bipush (v := nI 12) dX11_through_311 (by decide) ?_
    refine z_icmp_ne (tgt := 326) dX11_through_313 (by decide) (fun _ => ?_) (fun c_ => absurd c_ (by decide +kernel))
    refine z_iload_n dX11_through_326 rfl rfl ?_
    refine z_iconst (v := nI 3) dX11_through_327 (by decide) ?_
    refine z_bipush (v := nI 8) dX11_through_328 (by decide) ?_
    refine z_cS1 dX11_through_330 ml_X11_114 (sp_within) rfl rfl (Nat.le_of_ble_eq_true rfl) ?_
    refine z_if_eq (tgt := 372) dX11_through_333 (by decide) (fun c_ => absurd c_ (by decide +kernel)) (fun _ => ?_)
    refine z_aload_n dX11_through_336 rfl rfl ?_
    refine z_getI dX11_through_337 fl_X11_209 rfl rfl (show _ = nI (n + 1) by rw [z_up_o _ _ (Or.inr (by decide)), z_up_o _ _ (Or.inl (by decide))]; exact hsz) ?_
    refine z_iload dX11_through_340 rfl ?_
    refine z_icmp_le (tgt := 372) dX11_through_342 (by decide) (fun c_ => absurd c_ (nI_ge (by omega) (by omega))) (fun _ => ?_)
    refine z_aload_n dX11_through_345 rfl rfl ?_
    refine z_getR dX11_through_346 fl_X11_81 rfl rfl rfl ?_
    refine z_aload_n dX11_through_349 rfl rfl ?_
    refine z_getI dX11_through_350 fl_X11_209 rfl rfl (show _ = nI (n + 1) by rw [z_up_o _ _ (Or.inr (by decide)), z_up_o _ _ (Or.inl (by decide))]; exact hsz) ?_
    refine z_iconst (v := 1) dX11_through_353 (by decide) ?_
    refine z_isub dX11_through_354 (nI_pred n) ?_
    refine z_iald dX11_through_355 rfl rfl (by omega) (show _ = nI 2 by rw [z_up_o _ _ (Or.inl (by decide)), z_up_o _ _ (Or.inl (by decide))]; exact hkd) ?_
    refine z_iconst (v := nI 2) dX11_through_356 (by decide) ?_
    refine z_icmp_ne (tgt := 372) dX11_through_357 (by decide) (fun c_ => absurd (rfl) c_) (fun _ => ?_)
    refine z_bipush (v := (-3)) dX11_through_360 (by decide) ?_
    refine z_aload_n dX11_through_362 rfl rfl ?_
    refine z_getI dX11_through_363 fl_X11_209 rfl rfl (show _ = nI (n + 1) by rw [z_up_o _ _ (Or.inr (by decide)), z_up_o _ _ (Or.inl (by decide))]; exact hsz) ?_
    refine z_iconst (v := 1) dX11_through_366 (by decide) ?_
    refine z_isub dX11_through_367 (nI_pred n) ?_
    refine z_isub dX11_through_368 rfl ?_
    refine z_goto (tgt := 373) dX11_through_369 (by decide) ?_
    exact z_iret dX11_through_373 rfl rfl rfl
set_option maxRecDepth 100000 in
set_option maxHeartbeats 4000000 in
theorem sp_th4k {d : Nat} {σ : Nat → Nat → Int32} {τ : Nat → Nat → Int64} {j k n e : Nat} (hj : j < 30) (hk0 : σ 101 j = nI k) (hk : k < 40) (hn : σ 92 35 = nI n) (h40 : n < 40) (hop : σ 93 k = nI 4) (he : σ 92 44 = nI (e + 2)) (he8 : e + 2 ≤ 6) {b : Nat} (hb : σ 121 (e + 1) = nI b) (hb40 : b < 40) {a : Nat} (ha : σ 121 e = nI a) (ha40 : a < 40) (hsz : (cal (hg σ e) n 4 a b).2 92 35 = nI (n + 1)) (hkd : ¬ (cal (hg σ e) n 4 a b).2 113 n = nI 2) : z_MV M_X11_through (d + 2) 0 0 [.ref 92, .int (nI j)] (124, z_r0, σ, τ) (some (.int (0))) (124, z_r0, hg (z_up ((cal (hg σ e) n 4 a b).2) 121 e (nI (cal (hg σ e) n 4 a b).1)) (e + 1), τ) := by
  refine z_MV.of pn_X11_through (Nat.le_of_ble_eq_true rfl) (by simp [Value.category]) rfl ?_
  show z_V _ _ _ _ _ _ _ _ _ [_, _, _, _, _, _, _, _] _ _
  refine z_aload_n dX11_through_0 rfl rfl ?_
  refine z_getR dX11_through_1 fl_X11_41 rfl rfl rfl ?_
  refine z_iload_n dX11_through_4 rfl rfl ?_
  refine z_iald dX11_through_5 rfl rfl (by omega) hk0 ?_
  refine z_istore_n dX11_through_6 rfl (by decide) ?_
  show z_V _ _ _ _ _ _ _ _ _ [_, _, _, _, _, _, _, _] _ _
  refine z_aload_n dX11_through_7 rfl rfl ?_
  refine z_getR dX11_through_8 fl_X11_7 rfl rfl rfl ?_
  refine z_iload_n dX11_through_11 rfl rfl ?_
  refine z_iald dX11_through_12 rfl rfl (by omega) hop ?_
  refine z_istore_n dX11_through_13 rfl (by decide) ?_
  show z_V _ _ _ _ _ _ _ _ _ [_, _, _, _, _, _, _, _] _ _
  refine z_aload_n dX11_through_14 rfl rfl ?_
  refine z_getI dX11_through_15 fl_X11_209 rfl rfl hn ?_
  refine z_istore dX11_through_18 (by decide) ?_
  show z_V _ _ _ _ _ _ _ _ _ [_, _, _, _, _, _, _, _] _ _
  refine z_iload_n dX11_through_20 rfl rfl ?_
  refine z_cS1 dX11_through_21 ml_X11_133 (sp_rtakes (by decide)) rfl rfl (Nat.le_of_ble_eq_true rfl) ?_
  refine z_if_le (tgt := 41) dX11_through_24 (by decide) (fun c_ => absurd c_ (by decide +kernel)) (fun _ => ?_)
  refine z_aload_n dX11_through_27 rfl rfl ?_
  refine z_getR dX11_through_28 fl_X11_105 rfl rfl rfl ?_
  refine z_aload_n dX11_through_31 rfl rfl ?_
  refine z_getI dX11_through_32 fl_X11_216 rfl rfl he ?_
  refine z_iconst (v := 1) dX11_through_35 (by decide) ?_
  refine z_isub dX11_through_36 (nI_pred _) ?_
  refine z_iald dX11_through_37 rfl rfl (by omega) hb ?_
  refine z_goto (tgt := 42) dX11_through_38 (by decide) ?_
  refine z_istore dX11_through_42 (by decide) ?_
  show z_V _ _ _ _ _ _ _ _ _ [_, _, _, _, _, _, _, _] _ _
  refine z_iload_n dX11_through_44 rfl rfl ?_
  refine z_cS1 dX11_through_45 ml_X11_133 (sp_rtakes (by decide)) rfl rfl (Nat.le_of_ble_eq_true rfl) ?_
  refine z_iconst (v := 1) dX11_through_48 (by decide) ?_
  refine z_icmp_le (tgt := 66) dX11_through_49 (by decide) (fun c_ => absurd c_ (by decide +kernel)) (fun _ => ?_)
  refine z_aload_n dX11_through_52 rfl rfl ?_
  refine z_getR dX11_through_53 fl_X11_105 rfl rfl rfl ?_
  refine z_aload_n dX11_through_56 rfl rfl ?_
  refine z_getI dX11_through_57 fl_X11_216 rfl rfl he ?_
  refine z_iconst (v := nI 2) dX11_through_60 (by decide) ?_
  refine z_isub dX11_through_61 (show _ = nI e from pk_sub (Nat.le_add_left 2 e)) ?_
  refine z_iald dX11_through_62 rfl rfl (by omega) ha ?_
  refine z_goto (tgt := 67) dX11_through_63 (by decide) ?_
  refine z_istore dX11_through_67 (by decide) ?_
  show z_V _ _ _ _ _ _ _ _ _ [_, _, _, _, _, _, _, _] _ _
  refine z_aload_n dX11_through_69 rfl rfl ?_
  refine z_dup dX11_through_70 rfl ?_
  refine z_getI dX11_through_71 fl_X11_216 rfl rfl he ?_
  refine z_iload_n dX11_through_74 rfl rfl ?_
  refine z_cS1 dX11_through_75 ml_X11_133 (sp_rtakes (by decide)) rfl rfl (Nat.le_of_ble_eq_true rfl) ?_
  refine z_isub dX11_through_78 (show _ = nI e from pk_sub (Nat.le_add_left 2 e)) ?_
  refine z_putI dX11_through_79 fl_X11_216 rfl rfl (Or.inl rfl) rfl ?_
  show z_V _ _ _ _ _ _ _ _ _ _ _ (124, z_r0, hg σ e, τ)
  refine z_iload_n dX11_through_82 rfl rfl ?_
  refine z_if_ne (tgt := 108) dX11_through_83 (by decide) (fun _ => ?_) (fun c_ => absurd c_ (by decide +kernel))
  refine z_iload_n dX11_through_108 rfl rfl ?_
  refine z_iconst (v := 1) dX11_through_109 (by decide) ?_
  refine z_icmp_ne (tgt := 133) dX11_through_110 (by decide) (fun _ => ?_) (fun c_ => absurd c_ (by decide +kernel))
  refine z_iload_n dX11_through_133 rfl rfl ?_
  refine z_iconst (v := nI 2) dX11_through_134 (by decide) ?_
  refine z_icmp_ne (tgt := 151) dX11_through_135 (by decide) (fun _ => ?_) (fun c_ => absurd c_ (by decide +kernel))
  refine z_iload_n dX11_through_151 rfl rfl ?_
  refine z_iconst (v := nI 3) dX11_through_152 (by decide) ?_
  refine z_bipush (v := nI 8) dX11_through_153 (by decide) ?_
  refine z_cS1 dX11_through_155 ml_X11_114 (sp_within) rfl rfl (Nat.le_of_ble_eq_true rfl) ?_
  refine z_if_eq (tgt := 179) dX11_through_158 (by decide) (fun c_ => absurd c_ (by decide +kernel)) (fun _ => ?_)
  refine z_aload_n dX11_through_161 rfl rfl ?_
  refine z_getR dX11_through_162 fl_X11_105 rfl rfl rfl ?_
  refine z_aload_n dX11_through_165 rfl rfl ?_
  refine z_getI dX11_through_166 fl_X11_216 rfl rfl (show _ = nI e by simp [hg, z_up]) ?_
  refine z_aload_n dX11_through_169 rfl rfl ?_
  refine z_iload_n dX11_through_170 rfl rfl ?_
  refine z_iload dX11_through_171 rfl ?_
  refine z_iload dX11_through_173 rfl ?_
  refine z_cV1 dX11_through_175 ml_X11_219 (sp_calculated (show _ = nI n from hg_35.trans hn) h40 (by decide) (by decide) ha40 hb40) rfl ⟨by decide, rfl⟩ rfl rfl (Nat.le_of_ble_eq_true rfl) ?_
  refine z_iast dX11_through_178 rfl rfl (by omega) ?_
  refine z_iload_n dX11_through_179 rfl rfl ?_
  refine z_bipush (v := nI 9) dX11_through_180 (by decide) ?_
  refine z_icmp_eq (tgt := 191) dX11_through_182 (by decide) (fun c_ => absurd c_ (by decide +kernel)) (fun _ => ?_)
  refine z_iload_n dX11_through_185 rfl rfl ?_
  refine z_bipush (v := nI 11) dX11_through_186 (by decide) ?_
  refine z_icmp_ne (tgt := 226) dX11_through_188 (by decide) (fun _ => ?_) (fun c_ => absurd c_ (by decide +kernel))
  refine z_aload_n dX11_through_226 rfl rfl ?_
  refine z_dup dX11_through_227 rfl ?_
  refine z_getI dX11_through_228 fl_X11_216 rfl rfl (show _ = nI e by rw [z_up_o _ _ (Or.inl (by decide)), cal_44]; simp [hg, z_up]) ?_
  refine z_iload_n dX11_through_231 rfl rfl ?_
  refine z_cS1 dX11_through_232 ml_X11_136 (sp_rleaves (by decide)) rfl rfl (Nat.le_of_ble_eq_true rfl) ?_
  refine z_iadd dX11_through_235 (nI_add _ _) ?_
  refine z_putI dX11_through_236 fl_X11_216 rfl rfl (Or.inl rfl) rfl ?_
  refine z_aload_n dX11_through_239 rfl rfl ?_
  refine z_getR dX11_through_240 fl_X11_44 rfl rfl rfl ?_
  refine z_iload_n dX11_through_243 rfl rfl ?_
  refine z_zald dX11_through_244 rfl rfl (by omega) rfl ?_
  refine z_if_eq (tgt := 252) dX11_through_245 (by decide) (fun c245 => ?_) (fun c245 => ?_)
  · refine z_iconst (v := 1) dX11_through_252 (by decide) ?_
    refine z_istore dX11_through_253 (by decide) ?_
    show z_V _ _ _ _ _ _ _ _ _ [_, _, _, _, _, _, _, _] _ _
    refine z_iload_n dX11_through_255 rfl rfl ?_
    refine z_bipush (v := nI 14) dX11_through_256 (by decide) ?_
    refine z_icmp_ne (tgt := 310) dX11_through_258 (by decide) (fun _ => ?_) (fun c_ => absurd c_ (by decide +kernel))
    refine z_iload_n dX11_through_310 rfl rfl ?_
    refine z_bipush (v := nI 12) dX11_through_311 (by decide) ?_
    refine z_icmp_ne (tgt := 326) dX11_through_313 (by decide) (fun _ => ?_) (fun c_ => absurd c_ (by decide +kernel))
    refine z_iload_n dX11_through_326 rfl rfl ?_
    refine z_iconst (v := nI 3) dX11_through_327 (by decide) ?_
    refine z_bipush (v := nI 8) dX11_through_328 (by decide) ?_
    refine z_cS1 dX11_through_330 ml_X11_114 (sp_within) rfl rfl (Nat.le_of_ble_eq_true rfl) ?_
    refine z_if_eq (tgt := 372) dX11_through_333 (by decide) (fun c_ => absurd c_ (by decide +kernel)) (fun _ => ?_)
    refine z_aload_n dX11_through_336 rfl rfl ?_
    refine z_getI dX11_through_337 fl_X11_209 rfl rfl (show _ = nI (n + 1) by rw [z_up_o _ _ (Or.inr (by decide)), z_up_o _ _ (Or.inl (by decide))]; exact hsz) ?_
    refine z_iload dX11_through_340 rfl ?_
    refine z_icmp_le (tgt := 372) dX11_through_342 (by decide) (fun c_ => absurd c_ (nI_ge (by omega) (by omega))) (fun _ => ?_)
    refine z_aload_n dX11_through_345 rfl rfl ?_
    refine z_getR dX11_through_346 fl_X11_81 rfl rfl rfl ?_
    refine z_aload_n dX11_through_349 rfl rfl ?_
    refine z_getI dX11_through_350 fl_X11_209 rfl rfl (show _ = nI (n + 1) by rw [z_up_o _ _ (Or.inr (by decide)), z_up_o _ _ (Or.inl (by decide))]; exact hsz) ?_
    refine z_iconst (v := 1) dX11_through_353 (by decide) ?_
    refine z_isub dX11_through_354 (nI_pred n) ?_
    refine z_iald dX11_through_355 rfl rfl (by omega) (show _ = (cal (hg σ e) n 4 a b).2 113 n by rw [z_up_o _ _ (Or.inl (by decide)), z_up_o _ _ (Or.inl (by decide))]) ?_
    refine z_iconst (v := nI 2) dX11_through_356 (by decide) ?_
    refine z_icmp_ne (tgt := 372) dX11_through_357 (by decide) (fun _ => ?_) (fun c_ => absurd c_ (hkd))
    refine z_iconst (v := 0) dX11_through_372 (by decide) ?_
    exact z_iret dX11_through_373 rfl rfl rfl
  · refine z_iconst (v := nI 2) dX11_through_248 (by decide) ?_
    refine z_goto (tgt := 253) dX11_through_249 (by decide) ?_
    refine z_istore dX11_through_253 (by decide) ?_
    show z_V _ _ _ _ _ _ _ _ _ [_, _, _, _, _, _, _, _] _ _
    refine z_iload_n dX11_through_255 rfl rfl ?_
    refine z_bipush (v := nI 14) dX11_through_256 (by decide) ?_
    refine z_icmp_ne (tgt := 310) dX11_through_258 (by decide) (fun _ => ?_) (fun c_ => absurd c_ (by decide +kernel))
    refine z_iload_n dX11_through_310 rfl rfl ?_
    refine z_bipush (v := nI 12) dX11_through_311 (by decide) ?_
    refine z_icmp_ne (tgt := 326) dX11_through_313 (by decide) (fun _ => ?_) (fun c_ => absurd c_ (by decide +kernel))
    refine z_iload_n dX11_through_326 rfl rfl ?_
    refine z_iconst (v := nI 3) dX11_through_327 (by decide) ?_
    refine z_bipush (v := nI 8) dX11_through_328 (by decide) ?_
    refine z_cS1 dX11_through_330 ml_X11_114 (sp_within) rfl rfl (Nat.le_of_ble_eq_true rfl) ?_
    refine z_if_eq (tgt := 372) dX11_through_333 (by decide) (fun c_ => absurd c_ (by decide +kernel)) (fun _ => ?_)
    refine z_aload_n dX11_through_336 rfl rfl ?_
    refine z_getI dX11_through_337 fl_X11_209 rfl rfl (show _ = nI (n + 1) by rw [z_up_o _ _ (Or.inr (by decide)), z_up_o _ _ (Or.inl (by decide))]; exact hsz) ?_
    refine z_iload dX11_through_340 rfl ?_
    refine z_icmp_le (tgt := 372) dX11_through_342 (by decide) (fun c_ => absurd c_ (nI_ge (by omega) (by omega))) (fun _ => ?_)
    refine z_aload_n dX11_through_345 rfl rfl ?_
    refine z_getR dX11_through_346 fl_X11_81 rfl rfl rfl ?_
    refine z_aload_n dX11_through_349 rfl rfl ?_
    refine z_getI dX11_through_350 fl_X11_209 rfl rfl (show _ = nI (n + 1) by rw [z_up_o _ _ (Or.inr (by decide)), z_up_o _ _ (Or.inl (by decide))]; exact hsz) ?_
    refine z_iconst (v := 1) dX11_through_353 (by decide) ?_
    refine z_isub dX11_through_354 (nI_pred n) ?_
    refine z_iald dX11_through_355 rfl rfl (by omega) (show _ = (cal (hg σ e) n 4 a b).2 113 n by rw [z_up_o _ _ (Or.inl (by decide)), z_up_o _ _ (Or.inl (by decide))]) ?_
    refine z_iconst (v := nI 2) dX11_through_356 (by decide) ?_
    refine z_icmp_ne (tgt := 372) dX11_through_357 (by decide) (fun _ => ?_) (fun c_ => absurd c_ (hkd))
    refine z_iconst (v := 0) dX11_through_372 (by decide) ?_
    exact z_iret dX11_through_373 rfl rfl rfl
set_option maxRecDepth 100000 in
set_option maxHeartbeats 4000000 in
theorem sp_th5s {d : Nat} {σ : Nat → Nat → Int32} {τ : Nat → Nat → Int64} {j k n e : Nat} (hj : j < 30) (hk0 : σ 101 j = nI k) (hk : k < 40) (hn : σ 92 35 = nI n) (h40 : n < 40) (hop : σ 93 k = nI 5) (he : σ 92 44 = nI (e + 2)) (he8 : e + 2 ≤ 6) {b : Nat} (hb : σ 121 (e + 1) = nI b) (hb40 : b < 40) {a : Nat} (ha : σ 121 e = nI a) (ha40 : a < 40) (hsz : (cal (hg σ e) n 5 a b).2 92 35 = nI n) : z_MV M_X11_through (d + 2) 0 0 [.ref 92, .int (nI j)] (124, z_r0, σ, τ) (some (.int (0))) (124, z_r0, hg (z_up ((cal (hg σ e) n 5 a b).2) 121 e (nI (cal (hg σ e) n 5 a b).1)) (e + 1), τ) := by
  refine z_MV.of pn_X11_through (Nat.le_of_ble_eq_true rfl) (by simp [Value.category]) rfl ?_
  show z_V _ _ _ _ _ _ _ _ _ [_, _, _, _, _, _, _, _] _ _
  refine z_aload_n dX11_through_0 rfl rfl ?_
  refine z_getR dX11_through_1 fl_X11_41 rfl rfl rfl ?_
  refine z_iload_n dX11_through_4 rfl rfl ?_
  refine z_iald dX11_through_5 rfl rfl (by omega) hk0 ?_
  refine z_istore_n dX11_through_6 rfl (by decide) ?_
  show z_V _ _ _ _ _ _ _ _ _ [_, _, _, _, _, _, _, _] _ _
  refine z_aload_n dX11_through_7 rfl rfl ?_
  refine z_getR dX11_through_8 fl_X11_7 rfl rfl rfl ?_
  refine z_iload_n dX11_through_11 rfl rfl ?_
  refine z_iald dX11_through_12 rfl rfl (by omega) hop ?_
  refine z_istore_n dX11_through_13 rfl (by decide) ?_
  show z_V _ _ _ _ _ _ _ _ _ [_, _, _, _, _, _, _, _] _ _
  refine z_aload_n dX11_through_14 rfl rfl ?_
  refine z_getI dX11_through_15 fl_X11_209 rfl rfl hn ?_
  refine z_istore dX11_through_18 (by decide) ?_
  show z_V _ _ _ _ _ _ _ _ _ [_, _, _, _, _, _, _, _] _ _
  refine z_iload_n dX11_through_20 rfl rfl ?_
  refine z_cS1 dX11_through_21 ml_X11_133 (sp_rtakes (by decide)) rfl rfl (Nat.le_of_ble_eq_true rfl) ?_
  refine z_if_le (tgt := 41) dX11_through_24 (by decide) (fun c_ => absurd c_ (by decide +kernel)) (fun _ => ?_)
  refine z_aload_n dX11_through_27 rfl rfl ?_
  refine z_getR dX11_through_28 fl_X11_105 rfl rfl rfl ?_
  refine z_aload_n dX11_through_31 rfl rfl ?_
  refine z_getI dX11_through_32 fl_X11_216 rfl rfl he ?_
  refine z_iconst (v := 1) dX11_through_35 (by decide) ?_
  refine z_isub dX11_through_36 (nI_pred _) ?_
  refine z_iald dX11_through_37 rfl rfl (by omega) hb ?_
  refine z_goto (tgt := 42) dX11_through_38 (by decide) ?_
  refine z_istore dX11_through_42 (by decide) ?_
  show z_V _ _ _ _ _ _ _ _ _ [_, _, _, _, _, _, _, _] _ _
  refine z_iload_n dX11_through_44 rfl rfl ?_
  refine z_cS1 dX11_through_45 ml_X11_133 (sp_rtakes (by decide)) rfl rfl (Nat.le_of_ble_eq_true rfl) ?_
  refine z_iconst (v := 1) dX11_through_48 (by decide) ?_
  refine z_icmp_le (tgt := 66) dX11_through_49 (by decide) (fun c_ => absurd c_ (by decide +kernel)) (fun _ => ?_)
  refine z_aload_n dX11_through_52 rfl rfl ?_
  refine z_getR dX11_through_53 fl_X11_105 rfl rfl rfl ?_
  refine z_aload_n dX11_through_56 rfl rfl ?_
  refine z_getI dX11_through_57 fl_X11_216 rfl rfl he ?_
  refine z_iconst (v := nI 2) dX11_through_60 (by decide) ?_
  refine z_isub dX11_through_61 (show _ = nI e from pk_sub (Nat.le_add_left 2 e)) ?_
  refine z_iald dX11_through_62 rfl rfl (by omega) ha ?_
  refine z_goto (tgt := 67) dX11_through_63 (by decide) ?_
  refine z_istore dX11_through_67 (by decide) ?_
  show z_V _ _ _ _ _ _ _ _ _ [_, _, _, _, _, _, _, _] _ _
  refine z_aload_n dX11_through_69 rfl rfl ?_
  refine z_dup dX11_through_70 rfl ?_
  refine z_getI dX11_through_71 fl_X11_216 rfl rfl he ?_
  refine z_iload_n dX11_through_74 rfl rfl ?_
  refine z_cS1 dX11_through_75 ml_X11_133 (sp_rtakes (by decide)) rfl rfl (Nat.le_of_ble_eq_true rfl) ?_
  refine z_isub dX11_through_78 (show _ = nI e from pk_sub (Nat.le_add_left 2 e)) ?_
  refine z_putI dX11_through_79 fl_X11_216 rfl rfl (Or.inl rfl) rfl ?_
  show z_V _ _ _ _ _ _ _ _ _ _ _ (124, z_r0, hg σ e, τ)
  refine z_iload_n dX11_through_82 rfl rfl ?_
  refine z_if_ne (tgt := 108) dX11_through_83 (by decide) (fun _ => ?_) (fun c_ => absurd c_ (by decide +kernel))
  refine z_iload_n dX11_through_108 rfl rfl ?_
  refine z_iconst (v := 1) dX11_through_109 (by decide) ?_
  refine z_icmp_ne (tgt := 133) dX11_through_110 (by decide) (fun _ => ?_) (fun c_ => absurd c_ (by decide +kernel))
  refine z_iload_n dX11_through_133 rfl rfl ?_
  refine z_iconst (v := nI 2) dX11_through_134 (by decide) ?_
  refine z_icmp_ne (tgt := 151) dX11_through_135 (by decide) (fun _ => ?_) (fun c_ => absurd c_ (by decide +kernel))
  refine z_iload_n dX11_through_151 rfl rfl ?_
  refine z_iconst (v := nI 3) dX11_through_152 (by decide) ?_
  refine z_bipush (v := nI 8) dX11_through_153 (by decide) ?_
  refine z_cS1 dX11_through_155 ml_X11_114 (sp_within) rfl rfl (Nat.le_of_ble_eq_true rfl) ?_
  refine z_if_eq (tgt := 179) dX11_through_158 (by decide) (fun c_ => absurd c_ (by decide +kernel)) (fun _ => ?_)
  refine z_aload_n dX11_through_161 rfl rfl ?_
  refine z_getR dX11_through_162 fl_X11_105 rfl rfl rfl ?_
  refine z_aload_n dX11_through_165 rfl rfl ?_
  refine z_getI dX11_through_166 fl_X11_216 rfl rfl (show _ = nI e by simp [hg, z_up]) ?_
  refine z_aload_n dX11_through_169 rfl rfl ?_
  refine z_iload_n dX11_through_170 rfl rfl ?_
  refine z_iload dX11_through_171 rfl ?_
  refine z_iload dX11_through_173 rfl ?_
  refine z_cV1 dX11_through_175 ml_X11_219 (sp_calculated (show _ = nI n from hg_35.trans hn) h40 (by decide) (by decide) ha40 hb40) rfl ⟨by decide, rfl⟩ rfl rfl (Nat.le_of_ble_eq_true rfl) ?_
  refine z_iast dX11_through_178 rfl rfl (by omega) ?_
  refine z_iload_n dX11_through_179 rfl rfl ?_
  refine z_bipush (v := nI 9) dX11_through_180 (by decide) ?_
  refine z_icmp_eq (tgt := 191) dX11_through_182 (by decide) (fun c_ => absurd c_ (by decide +kernel)) (fun _ => ?_)
  refine z_iload_n dX11_through_185 rfl rfl ?_
  refine z_bipush (v := nI 11) dX11_through_186 (by decide) ?_
  refine z_icmp_ne (tgt := 226) dX11_through_188 (by decide) (fun _ => ?_) (fun c_ => absurd c_ (by decide +kernel))
  refine z_aload_n dX11_through_226 rfl rfl ?_
  refine z_dup dX11_through_227 rfl ?_
  refine z_getI dX11_through_228 fl_X11_216 rfl rfl (show _ = nI e by rw [z_up_o _ _ (Or.inl (by decide)), cal_44]; simp [hg, z_up]) ?_
  refine z_iload_n dX11_through_231 rfl rfl ?_
  refine z_cS1 dX11_through_232 ml_X11_136 (sp_rleaves (by decide)) rfl rfl (Nat.le_of_ble_eq_true rfl) ?_
  refine z_iadd dX11_through_235 (nI_add _ _) ?_
  refine z_putI dX11_through_236 fl_X11_216 rfl rfl (Or.inl rfl) rfl ?_
  refine z_aload_n dX11_through_239 rfl rfl ?_
  refine z_getR dX11_through_240 fl_X11_44 rfl rfl rfl ?_
  refine z_iload_n dX11_through_243 rfl rfl ?_
  refine z_zald dX11_through_244 rfl rfl (by omega) rfl ?_
  refine z_if_eq (tgt := 252) dX11_through_245 (by decide) (fun c245 => ?_) (fun c245 => ?_)
  · refine z_iconst (v := 1) dX11_through_252 (by decide) ?_
    refine z_istore dX11_through_253 (by decide) ?_
    show z_V _ _ _ _ _ _ _ _ _ [_, _, _, _, _, _, _, _] _ _
    refine z_iload_n dX11_through_255 rfl rfl ?_
    refine z_bipush (v := nI 14) dX11_through_256 (by decide) ?_
    refine z_icmp_ne (tgt := 310) dX11_through_258 (by decide) (fun _ => ?_) (fun c_ => absurd c_ (by decide +kernel))
    refine z_iload_n dX11_through_310 rfl rfl ?_
    refine z_bipush (v := nI 12) dX11_through_311 (by decide) ?_
    refine z_icmp_ne (tgt := 326) dX11_through_313 (by decide) (fun _ => ?_) (fun c_ => absurd c_ (by decide +kernel))
    refine z_iload_n dX11_through_326 rfl rfl ?_
    refine z_iconst (v := nI 3) dX11_through_327 (by decide) ?_
    refine z_bipush (v := nI 8) dX11_through_328 (by decide) ?_
    refine z_cS1 dX11_through_330 ml_X11_114 (sp_within) rfl rfl (Nat.le_of_ble_eq_true rfl) ?_
    refine z_if_eq (tgt := 372) dX11_through_333 (by decide) (fun c_ => absurd c_ (by decide +kernel)) (fun _ => ?_)
    refine z_aload_n dX11_through_336 rfl rfl ?_
    refine z_getI dX11_through_337 fl_X11_209 rfl rfl (show _ = nI n by rw [z_up_o _ _ (Or.inr (by decide)), z_up_o _ _ (Or.inl (by decide))]; exact hsz) ?_
    refine z_iload dX11_through_340 rfl ?_
    refine z_icmp_le (tgt := 372) dX11_through_342 (by decide) (fun _ => ?_) (fun c_ => absurd (Int32.le_refl _) c_)
    refine z_iconst (v := 0) dX11_through_372 (by decide) ?_
    exact z_iret dX11_through_373 rfl rfl rfl
  · refine z_iconst (v := nI 2) dX11_through_248 (by decide) ?_
    refine z_goto (tgt := 253) dX11_through_249 (by decide) ?_
    refine z_istore dX11_through_253 (by decide) ?_
    show z_V _ _ _ _ _ _ _ _ _ [_, _, _, _, _, _, _, _] _ _
    refine z_iload_n dX11_through_255 rfl rfl ?_
    refine z_bipush (v := nI 14) dX11_through_256 (by decide) ?_
    refine z_icmp_ne (tgt := 310) dX11_through_258 (by decide) (fun _ => ?_) (fun c_ => absurd c_ (by decide +kernel))
    refine z_iload_n dX11_through_310 rfl rfl ?_
    refine z_bipush (v := nI 12) dX11_through_311 (by decide) ?_
    refine z_icmp_ne (tgt := 326) dX11_through_313 (by decide) (fun _ => ?_) (fun c_ => absurd c_ (by decide +kernel))
    refine z_iload_n dX11_through_326 rfl rfl ?_
    refine z_iconst (v := nI 3) dX11_through_327 (by decide) ?_
    refine z_bipush (v := nI 8) dX11_through_328 (by decide) ?_
    refine z_cS1 dX11_through_330 ml_X11_114 (sp_within) rfl rfl (Nat.le_of_ble_eq_true rfl) ?_
    refine z_if_eq (tgt := 372) dX11_through_333 (by decide) (fun c_ => absurd c_ (by decide +kernel)) (fun _ => ?_)
    refine z_aload_n dX11_through_336 rfl rfl ?_
    refine z_getI dX11_through_337 fl_X11_209 rfl rfl (show _ = nI n by rw [z_up_o _ _ (Or.inr (by decide)), z_up_o _ _ (Or.inl (by decide))]; exact hsz) ?_
    refine z_iload dX11_through_340 rfl ?_
    refine z_icmp_le (tgt := 372) dX11_through_342 (by decide) (fun _ => ?_) (fun c_ => absurd (Int32.le_refl _) c_)
    refine z_iconst (v := 0) dX11_through_372 (by decide) ?_
    exact z_iret dX11_through_373 rfl rfl rfl
set_option maxRecDepth 100000 in
set_option maxHeartbeats 4000000 in
theorem sp_th5n {d : Nat} {σ : Nat → Nat → Int32} {τ : Nat → Nat → Int64} {j k n e : Nat} (hj : j < 30) (hk0 : σ 101 j = nI k) (hk : k < 40) (hn : σ 92 35 = nI n) (h40 : n < 40) (hop : σ 93 k = nI 5) (he : σ 92 44 = nI (e + 2)) (he8 : e + 2 ≤ 6) {b : Nat} (hb : σ 121 (e + 1) = nI b) (hb40 : b < 40) {a : Nat} (ha : σ 121 e = nI a) (ha40 : a < 40) (hsz : (cal (hg σ e) n 5 a b).2 92 35 = nI (n + 1)) (hkd : (cal (hg σ e) n 5 a b).2 113 n = nI 2) : z_MV M_X11_through (d + 2) 0 0 [.ref 92, .int (nI j)] (124, z_r0, σ, τ) (some (.int (-3 - nI n))) (124, z_r0, hg (z_up ((cal (hg σ e) n 5 a b).2) 121 e (nI (cal (hg σ e) n 5 a b).1)) (e + 1), τ) := by
  refine z_MV.of pn_X11_through (Nat.le_of_ble_eq_true rfl) (by simp [Value.category]) rfl ?_
  show z_V _ _ _ _ _ _ _ _ _ [_, _, _, _, _, _, _, _] _ _
  refine z_aload_n dX11_through_0 rfl rfl ?_
  refine z_getR dX11_through_1 fl_X11_41 rfl rfl rfl ?_
  refine z_iload_n dX11_through_4 rfl rfl ?_
  refine z_iald dX11_through_5 rfl rfl (by omega) hk0 ?_
  refine z_istore_n dX11_through_6 rfl (by decide) ?_
  show z_V _ _ _ _ _ _ _ _ _ [_, _, _, _, _, _, _, _] _ _
  refine z_aload_n dX11_through_7 rfl rfl ?_
  refine z_getR dX11_through_8 fl_X11_7 rfl rfl rfl ?_
  refine z_iload_n dX11_through_11 rfl rfl ?_
  refine z_iald dX11_through_12 rfl rfl (by omega) hop ?_
  refine z_istore_n dX11_through_13 rfl (by decide) ?_
  show z_V _ _ _ _ _ _ _ _ _ [_, _, _, _, _, _, _, _] _ _
  refine z_aload_n dX11_through_14 rfl rfl ?_
  refine z_getI dX11_through_15 fl_X11_209 rfl rfl hn ?_
  refine z_istore dX11_through_18 (by decide) ?_
  show z_V _ _ _ _ _ _ _ _ _ [_, _, _, _, _, _, _, _] _ _
  refine z_iload_n dX11_through_20 rfl rfl ?_
  refine z_cS1 dX11_through_21 ml_X11_133 (sp_rtakes (by decide)) rfl rfl (Nat.le_of_ble_eq_true rfl) ?_
  refine z_if_le (tgt := 41) dX11_through_24 (by decide) (fun c_ => absurd c_ (by decide +kernel)) (fun _ => ?_)
  refine z_aload_n dX11_through_27 rfl rfl ?_
  refine z_getR dX11_through_28 fl_X11_105 rfl rfl rfl ?_
  refine z_aload_n dX11_through_31 rfl rfl ?_
  refine z_getI dX11_through_32 fl_X11_216 rfl rfl he ?_
  refine z_iconst (v := 1) dX11_through_35 (by decide) ?_
  refine z_isub dX11_through_36 (nI_pred _) ?_
  refine z_iald dX11_through_37 rfl rfl (by omega) hb ?_
  refine z_goto (tgt := 42) dX11_through_38 (by decide) ?_
  refine z_istore dX11_through_42 (by decide) ?_
  show z_V _ _ _ _ _ _ _ _ _ [_, _, _, _, _, _, _, _] _ _
  refine z_iload_n dX11_through_44 rfl rfl ?_
  refine z_cS1 dX11_through_45 ml_X11_133 (sp_rtakes (by decide)) rfl rfl (Nat.le_of_ble_eq_true rfl) ?_
  refine z_iconst (v := 1) dX11_through_48 (by decide) ?_
  refine z_icmp_le (tgt := 66) dX11_through_49 (by decide) (fun c_ => absurd c_ (by decide +kernel)) (fun _ => ?_)
  refine z_aload_n dX11_through_52 rfl rfl ?_
  refine z_getR dX11_through_53 fl_X11_105 rfl rfl rfl ?_
  refine z_aload_n dX11_through_56 rfl rfl ?_
  refine z_getI dX11_through_57 fl_X11_216 rfl rfl he ?_
  refine z_iconst (v := nI 2) dX11_through_60 (by decide) ?_
  refine z_isub dX11_through_61 (show _ = nI e from pk_sub (Nat.le_add_left 2 e)) ?_
  refine z_iald dX11_through_62 rfl rfl (by omega) ha ?_
  refine z_goto (tgt := 67) dX11_through_63 (by decide) ?_
  refine z_istore dX11_through_67 (by decide) ?_
  show z_V _ _ _ _ _ _ _ _ _ [_, _, _, _, _, _, _, _] _ _
  refine z_aload_n dX11_through_69 rfl rfl ?_
  refine z_dup dX11_through_70 rfl ?_
  refine z_getI dX11_through_71 fl_X11_216 rfl rfl he ?_
  refine z_iload_n dX11_through_74 rfl rfl ?_
  refine z_cS1 dX11_through_75 ml_X11_133 (sp_rtakes (by decide)) rfl rfl (Nat.le_of_ble_eq_true rfl) ?_
  refine z_isub dX11_through_78 (show _ = nI e from pk_sub (Nat.le_add_left 2 e)) ?_
  refine z_putI dX11_through_79 fl_X11_216 rfl rfl (Or.inl rfl) rfl ?_
  show z_V _ _ _ _ _ _ _ _ _ _ _ (124, z_r0, hg σ e, τ)
  refine z_iload_n dX11_through_82 rfl rfl ?_
  refine z_if_ne (tgt := 108) dX11_through_83 (by decide) (fun _ => ?_) (fun c_ => absurd c_ (by decide +kernel))
  refine z_iload_n dX11_through_108 rfl rfl ?_
  refine z_iconst (v := 1) dX11_through_109 (by decide) ?_
  refine z_icmp_ne (tgt := 133) dX11_through_110 (by decide) (fun _ => ?_) (fun c_ => absurd c_ (by decide +kernel))
  refine z_iload_n dX11_through_133 rfl rfl ?_
  refine z_iconst (v := nI 2) dX11_through_134 (by decide) ?_
  refine z_icmp_ne (tgt := 151) dX11_through_135 (by decide) (fun _ => ?_) (fun c_ => absurd c_ (by decide +kernel))
  refine z_iload_n dX11_through_151 rfl rfl ?_
  refine z_iconst (v := nI 3) dX11_through_152 (by decide) ?_
  refine z_bipush (v := nI 8) dX11_through_153 (by decide) ?_
  refine z_cS1 dX11_through_155 ml_X11_114 (sp_within) rfl rfl (Nat.le_of_ble_eq_true rfl) ?_
  refine z_if_eq (tgt := 179) dX11_through_158 (by decide) (fun c_ => absurd c_ (by decide +kernel)) (fun _ => ?_)
  refine z_aload_n dX11_through_161 rfl rfl ?_
  refine z_getR dX11_through_162 fl_X11_105 rfl rfl rfl ?_
  refine z_aload_n dX11_through_165 rfl rfl ?_
  refine z_getI dX11_through_166 fl_X11_216 rfl rfl (show _ = nI e by simp [hg, z_up]) ?_
  refine z_aload_n dX11_through_169 rfl rfl ?_
  refine z_iload_n dX11_through_170 rfl rfl ?_
  refine z_iload dX11_through_171 rfl ?_
  refine z_iload dX11_through_173 rfl ?_
  refine z_cV1 dX11_through_175 ml_X11_219 (sp_calculated (show _ = nI n from hg_35.trans hn) h40 (by decide) (by decide) ha40 hb40) rfl ⟨by decide, rfl⟩ rfl rfl (Nat.le_of_ble_eq_true rfl) ?_
  refine z_iast dX11_through_178 rfl rfl (by omega) ?_
  refine z_iload_n dX11_through_179 rfl rfl ?_
  refine z_bipush (v := nI 9) dX11_through_180 (by decide) ?_
  refine z_icmp_eq (tgt := 191) dX11_through_182 (by decide) (fun c_ => absurd c_ (by decide +kernel)) (fun _ => ?_)
  refine z_iload_n dX11_through_185 rfl rfl ?_
  refine z_bipush (v := nI 11) dX11_through_186 (by decide) ?_
  refine z_icmp_ne (tgt := 226) dX11_through_188 (by decide) (fun _ => ?_) (fun c_ => absurd c_ (by decide +kernel))
  refine z_aload_n dX11_through_226 rfl rfl ?_
  refine z_dup dX11_through_227 rfl ?_
  refine z_getI dX11_through_228 fl_X11_216 rfl rfl (show _ = nI e by rw [z_up_o _ _ (Or.inl (by decide)), cal_44]; simp [hg, z_up]) ?_
  refine z_iload_n dX11_through_231 rfl rfl ?_
  refine z_cS1 dX11_through_232 ml_X11_136 (sp_rleaves (by decide)) rfl rfl (Nat.le_of_ble_eq_true rfl) ?_
  refine z_iadd dX11_through_235 (nI_add _ _) ?_
  refine z_putI dX11_through_236 fl_X11_216 rfl rfl (Or.inl rfl) rfl ?_
  refine z_aload_n dX11_through_239 rfl rfl ?_
  refine z_getR dX11_through_240 fl_X11_44 rfl rfl rfl ?_
  refine z_iload_n dX11_through_243 rfl rfl ?_
  refine z_zald dX11_through_244 rfl rfl (by omega) rfl ?_
  refine z_if_eq (tgt := 252) dX11_through_245 (by decide) (fun c245 => ?_) (fun c245 => ?_)
  · refine z_iconst (v := 1) dX11_through_252 (by decide) ?_
    refine z_istore dX11_through_253 (by decide) ?_
    show z_V _ _ _ _ _ _ _ _ _ [_, _, _, _, _, _, _, _] _ _
    refine z_iload_n dX11_through_255 rfl rfl ?_
    refine z_bipush (v := nI 14) dX11_through_256 (by decide) ?_
    refine z_icmp_ne (tgt := 310) dX11_through_258 (by decide) (fun _ => ?_) (fun c_ => absurd c_ (by decide +kernel))
    refine z_iload_n dX11_through_310 rfl rfl ?_
    refine z_bipush (v := nI 12) dX11_through_311 (by decide) ?_
    refine z_icmp_ne (tgt := 326) dX11_through_313 (by decide) (fun _ => ?_) (fun c_ => absurd c_ (by decide +kernel))
    refine z_iload_n dX11_through_326 rfl rfl ?_
    refine z_iconst (v := nI 3) dX11_through_327 (by decide) ?_
    refine z_bipush (v := nI 8) dX11_through_328 (by decide) ?_
    refine z_cS1 dX11_through_330 ml_X11_114 (sp_within) rfl rfl (Nat.le_of_ble_eq_true rfl) ?_
    refine z_if_eq (tgt := 372) dX11_through_333 (by decide) (fun c_ => absurd c_ (by decide +kernel)) (fun _ => ?_)
    refine z_aload_n dX11_through_336 rfl rfl ?_
    refine z_getI dX11_through_337 fl_X11_209 rfl rfl (show _ = nI (n + 1) by rw [z_up_o _ _ (Or.inr (by decide)), z_up_o _ _ (Or.inl (by decide))]; exact hsz) ?_
    refine z_iload dX11_through_340 rfl ?_
    refine z_icmp_le (tgt := 372) dX11_through_342 (by decide) (fun c_ => absurd c_ (nI_ge (by omega) (by omega))) (fun _ => ?_)
    refine z_aload_n dX11_through_345 rfl rfl ?_
    refine z_getR dX11_through_346 fl_X11_81 rfl rfl rfl ?_
    refine z_aload_n dX11_through_349 rfl rfl ?_
    refine z_getI dX11_through_350 fl_X11_209 rfl rfl (show _ = nI (n + 1) by rw [z_up_o _ _ (Or.inr (by decide)), z_up_o _ _ (Or.inl (by decide))]; exact hsz) ?_
    refine z_iconst (v := 1) dX11_through_353 (by decide) ?_
    refine z_isub dX11_through_354 (nI_pred n) ?_
    refine z_iald dX11_through_355 rfl rfl (by omega) (show _ = nI 2 by rw [z_up_o _ _ (Or.inl (by decide)), z_up_o _ _ (Or.inl (by decide))]; exact hkd) ?_
    refine z_iconst (v := nI 2) dX11_through_356 (by decide) ?_
    refine z_icmp_ne (tgt := 372) dX11_through_357 (by decide) (fun c_ => absurd (rfl) c_) (fun _ => ?_)
    refine z_bipush (v := (-3)) dX11_through_360 (by decide) ?_
    refine z_aload_n dX11_through_362 rfl rfl ?_
    refine z_getI dX11_through_363 fl_X11_209 rfl rfl (show _ = nI (n + 1) by rw [z_up_o _ _ (Or.inr (by decide)), z_up_o _ _ (Or.inl (by decide))]; exact hsz) ?_
    refine z_iconst (v := 1) dX11_through_366 (by decide) ?_
    refine z_isub dX11_through_367 (nI_pred n) ?_
    refine z_isub dX11_through_368 rfl ?_
    refine z_goto (tgt := 373) dX11_through_369 (by decide) ?_
    exact z_iret dX11_through_373 rfl rfl rfl
  · refine z_iconst (v := nI 2) dX11_through_248 (by decide) ?_
    refine z_goto (tgt := 253) dX11_through_249 (by decide) ?_
    refine z_istore dX11_through_253 (by decide) ?_
    show z_V _ _ _ _ _ _ _ _ _ [_, _, _, _, _, _, _, _] _ _
    refine z_iload_n dX11_through_255 rfl rfl ?_
    refine z_bipush (v := nI 14) dX11_through_256 (by decide) ?_
    refine z_icmp_ne (tgt := 310) dX11_through_258 (by decide) (fun _ => ?_) (fun c_ => absurd c_ (by decide +kernel))
    refine z_iload_n dX11_through_310 rfl rfl ?_
    refine z_bipush (v := nI 12) dX11_through_311 (by decide) ?_
    refine z_icmp_ne (tgt := 326) dX11_through_313 (by decide) (fun _ => ?_) (fun c_ => absurd c_ (by decide +kernel))
    refine z_iload_n dX11_through_326 rfl rfl ?_
    refine z_iconst (v := nI 3) dX11_through_327 (by decide) ?_
    refine z_bipush (v := nI 8) dX11_through_328 (by decide) ?_
    refine z_cS1 dX11_through_330 ml_X11_114 (sp_within) rfl rfl (Nat.le_of_ble_eq_true rfl) ?_
    refine z_if_eq (tgt := 372) dX11_through_333 (by decide) (fun c_ => absurd c_ (by decide +kernel)) (fun _ => ?_)
    refine z_aload_n dX11_through_336 rfl rfl ?_
    refine z_getI dX11_through_337 fl_X11_209 rfl rfl (show _ = nI (n + 1) by rw [z_up_o _ _ (Or.inr (by decide)), z_up_o _ _ (Or.inl (by decide))]; exact hsz) ?_
    refine z_iload dX11_through_340 rfl ?_
    refine z_icmp_le (tgt := 372) dX11_through_342 (by decide) (fun c_ => absurd c_ (nI_ge (by omega) (by omega))) (fun _ => ?_)
    refine z_aload_n dX11_through_345 rfl rfl ?_
    refine z_getR dX11_through_346 fl_X11_81 rfl rfl rfl ?_
    refine z_aload_n dX11_through_349 rfl rfl ?_
    refine z_getI dX11_through_350 fl_X11_209 rfl rfl (show _ = nI (n + 1) by rw [z_up_o _ _ (Or.inr (by decide)), z_up_o _ _ (Or.inl (by decide))]; exact hsz) ?_
    refine z_iconst (v := 1) dX11_through_353 (by decide) ?_
    refine z_isub dX11_through_354 (nI_pred n) ?_
    refine z_iald dX11_through_355 rfl rfl (by omega) (show _ = nI 2 by rw [z_up_o _ _ (Or.inl (by decide)), z_up_o _ _ (Or.inl (by decide))]; exact hkd) ?_
    refine z_iconst (v := nI 2) dX11_through_356 (by decide) ?_
    refine z_icmp_ne (tgt := 372) dX11_through_357 (by decide) (fun c_ => absurd (rfl) c_) (fun _ => ?_)
    refine z_bipush (v := (-3)) dX11_through_360 (by decide) ?_
    refine z_aload_n dX11_through_362 rfl rfl ?_
    refine z_getI dX11_through_363 fl_X11_209 rfl rfl (show _ = nI (n + 1) by rw [z_up_o _ _ (Or.inr (by decide)), z_up_o _ _ (Or.inl (by decide))]; exact hsz) ?_
    refine z_iconst (v := 1) dX11_through_366 (by decide) ?_
    refine z_isub dX11_through_367 (nI_pred n) ?_
    refine z_isub dX11_through_368 rfl ?_
    refine z_goto (tgt := 373) dX11_through_369 (by decide) ?_
    exact z_iret dX11_through_373 rfl rfl rfl
set_option maxRecDepth 100000 in
set_option maxHeartbeats 4000000 in
theorem sp_th5k {d : Nat} {σ : Nat → Nat → Int32} {τ : Nat → Nat → Int64} {j k n e : Nat} (hj : j < 30) (hk0 : σ 101 j = nI k) (hk : k < 40) (hn : σ 92 35 = nI n) (h40 : n < 40) (hop : σ 93 k = nI 5) (he : σ 92 44 = nI (e + 2)) (he8 : e + 2 ≤ 6) {b : Nat} (hb : σ 121 (e + 1) = nI b) (hb40 : b < 40) {a : Nat} (ha : σ 121 e = nI a) (ha40 : a < 40) (hsz : (cal (hg σ e) n 5 a b).2 92 35 = nI (n + 1)) (hkd : ¬ (cal (hg σ e) n 5 a b).2 113 n = nI 2) : z_MV M_X11_through (d + 2) 0 0 [.ref 92, .int (nI j)] (124, z_r0, σ, τ) (some (.int (0))) (124, z_r0, hg (z_up ((cal (hg σ e) n 5 a b).2) 121 e (nI (cal (hg σ e) n 5 a b).1)) (e + 1), τ) := by
  refine z_MV.of pn_X11_through (Nat.le_of_ble_eq_true rfl) (by simp [Value.category]) rfl ?_
  show z_V _ _ _ _ _ _ _ _ _ [_, _, _, _, _, _, _, _] _ _
  refine z_aload_n dX11_through_0 rfl rfl ?_
  refine z_getR dX11_through_1 fl_X11_41 rfl rfl rfl ?_
  refine z_iload_n dX11_through_4 rfl rfl ?_
  refine z_iald dX11_through_5 rfl rfl (by omega) hk0 ?_
  refine z_istore_n dX11_through_6 rfl (by decide) ?_
  show z_V _ _ _ _ _ _ _ _ _ [_, _, _, _, _, _, _, _] _ _
  refine z_aload_n dX11_through_7 rfl rfl ?_
  refine z_getR dX11_through_8 fl_X11_7 rfl rfl rfl ?_
  refine z_iload_n dX11_through_11 rfl rfl ?_
  refine z_iald dX11_through_12 rfl rfl (by omega) hop ?_
  refine z_istore_n dX11_through_13 rfl (by decide) ?_
  show z_V _ _ _ _ _ _ _ _ _ [_, _, _, _, _, _, _, _] _ _
  refine z_aload_n dX11_through_14 rfl rfl ?_
  refine z_getI dX11_through_15 fl_X11_209 rfl rfl hn ?_
  refine z_istore dX11_through_18 (by decide) ?_
  show z_V _ _ _ _ _ _ _ _ _ [_, _, _, _, _, _, _, _] _ _
  refine z_iload_n dX11_through_20 rfl rfl ?_
  refine z_cS1 dX11_through_21 ml_X11_133 (sp_rtakes (by decide)) rfl rfl (Nat.le_of_ble_eq_true rfl) ?_
  refine z_if_le (tgt := 41) dX11_through_24 (by decide) (fun c_ => absurd c_ (by decide +kernel)) (fun _ => ?_)
  refine z_aload_n dX11_through_27 rfl rfl ?_
  refine z_getR dX11_through_28 fl_X11_105 rfl rfl rfl ?_
  refine z_aload_n dX11_through_31 rfl rfl ?_
  refine z_getI dX11_through_32 fl_X11_216 rfl rfl he ?_
  refine z_iconst (v := 1) dX11_through_35 (by decide) ?_
  refine z_isub dX11_through_36 (nI_pred _) ?_
  refine z_iald dX11_through_37 rfl rfl (by omega) hb ?_
  refine z_goto (tgt := 42) dX11_through_38 (by decide) ?_
  refine z_istore dX11_through_42 (by decide) ?_
  show z_V _ _ _ _ _ _ _ _ _ [_, _, _, _, _, _, _, _] _ _
  refine z_iload_n dX11_through_44 rfl rfl ?_
  refine z_cS1 dX11_through_45 ml_X11_133 (sp_rtakes (by decide)) rfl rfl (Nat.le_of_ble_eq_true rfl) ?_
  refine z_iconst (v := 1) dX11_through_48 (by decide) ?_
  refine z_icmp_le (tgt := 66) dX11_through_49 (by decide) (fun c_ => absurd c_ (by decide +kernel)) (fun _ => ?_)
  refine z_aload_n dX11_through_52 rfl rfl ?_
  refine z_getR dX11_through_53 fl_X11_105 rfl rfl rfl ?_
  refine z_aload_n dX11_through_56 rfl rfl ?_
  refine z_getI dX11_through_57 fl_X11_216 rfl rfl he ?_
  refine z_iconst (v := nI 2) dX11_through_60 (by decide) ?_
  refine z_isub dX11_through_61 (show _ = nI e from pk_sub (Nat.le_add_left 2 e)) ?_
  refine z_iald dX11_through_62 rfl rfl (by omega) ha ?_
  refine z_goto (tgt := 67) dX11_through_63 (by decide) ?_
  refine z_istore dX11_through_67 (by decide) ?_
  show z_V _ _ _ _ _ _ _ _ _ [_, _, _, _, _, _, _, _] _ _
  refine z_aload_n dX11_through_69 rfl rfl ?_
  refine z_dup dX11_through_70 rfl ?_
  refine z_getI dX11_through_71 fl_X11_216 rfl rfl he ?_
  refine z_iload_n dX11_through_74 rfl rfl ?_
  refine z_cS1 dX11_through_75 ml_X11_133 (sp_rtakes (by decide)) rfl rfl (Nat.le_of_ble_eq_true rfl) ?_
  refine z_isub dX11_through_78 (show _ = nI e from pk_sub (Nat.le_add_left 2 e)) ?_
  refine z_putI dX11_through_79 fl_X11_216 rfl rfl (Or.inl rfl) rfl ?_
  show z_V _ _ _ _ _ _ _ _ _ _ _ (124, z_r0, hg σ e, τ)
  refine z_iload_n dX11_through_82 rfl rfl ?_
  refine z_if_ne (tgt := 108) dX11_through_83 (by decide) (fun _ => ?_) (fun c_ => absurd c_ (by decide +kernel))
  refine z_iload_n dX11_through_108 rfl rfl ?_
  refine z_iconst (v := 1) dX11_through_109 (by decide) ?_
  refine z_icmp_ne (tgt := 133) dX11_through_110 (by decide) (fun _ => ?_) (fun c_ => absurd c_ (by decide +kernel))
  refine z_iload_n dX11_through_133 rfl rfl ?_
  refine z_iconst (v := nI 2) dX11_through_134 (by decide) ?_
  refine z_icmp_ne (tgt := 151) dX11_through_135 (by decide) (fun _ => ?_) (fun c_ => absurd c_ (by decide +kernel))
  refine z_iload_n dX11_through_151 rfl rfl ?_
  refine z_iconst (v := nI 3) dX11_through_152 (by decide) ?_
  refine z_bipush (v := nI 8) dX11_through_153 (by decide) ?_
  refine z_cS1 dX11_through_155 ml_X11_114 (sp_within) rfl rfl (Nat.le_of_ble_eq_true rfl) ?_
  refine z_if_eq (tgt := 179) dX11_through_158 (by decide) (fun c_ => absurd c_ (by decide +kernel)) (fun _ => ?_)
  refine z_aload_n dX11_through_161 rfl rfl ?_
  refine z_getR dX11_through_162 fl_X11_105 rfl rfl rfl ?_
  refine z_aload_n dX11_through_165 rfl rfl ?_
  refine z_getI dX11_through_166 fl_X11_216 rfl rfl (show _ = nI e by simp [hg, z_up]) ?_
  refine z_aload_n dX11_through_169 rfl rfl ?_
  refine z_iload_n dX11_through_170 rfl rfl ?_
  refine z_iload dX11_through_171 rfl ?_
  refine z_iload dX11_through_173 rfl ?_
  refine z_cV1 dX11_through_175 ml_X11_219 (sp_calculated (show _ = nI n from hg_35.trans hn) h40 (by decide) (by decide) ha40 hb40) rfl ⟨by decide, rfl⟩ rfl rfl (Nat.le_of_ble_eq_true rfl) ?_
  refine z_iast dX11_through_178 rfl rfl (by omega) ?_
  refine z_iload_n dX11_through_179 rfl rfl ?_
  refine z_bipush (v := nI 9) dX11_through_180 (by decide) ?_
  refine z_icmp_eq (tgt := 191) dX11_through_182 (by decide) (fun c_ => absurd c_ (by decide +kernel)) (fun _ => ?_)
  refine z_iload_n dX11_through_185 rfl rfl ?_
  refine z_bipush (v := nI 11) dX11_through_186 (by decide) ?_
  refine z_icmp_ne (tgt := 226) dX11_through_188 (by decide) (fun _ => ?_) (fun c_ => absurd c_ (by decide +kernel))
  refine z_aload_n dX11_through_226 rfl rfl ?_
  refine z_dup dX11_through_227 rfl ?_
  refine z_getI dX11_through_228 fl_X11_216 rfl rfl (show _ = nI e by rw [z_up_o _ _ (Or.inl (by decide)), cal_44]; simp [hg, z_up]) ?_
  refine z_iload_n dX11_through_231 rfl rfl ?_
  refine z_cS1 dX11_through_232 ml_X11_136 (sp_rleaves (by decide)) rfl rfl (Nat.le_of_ble_eq_true rfl) ?_
  refine z_iadd dX11_through_235 (nI_add _ _) ?_
  refine z_putI dX11_through_236 fl_X11_216 rfl rfl (Or.inl rfl) rfl ?_
  refine z_aload_n dX11_through_239 rfl rfl ?_
  refine z_getR dX11_through_240 fl_X11_44 rfl rfl rfl ?_
  refine z_iload_n dX11_through_243 rfl rfl ?_
  refine z_zald dX11_through_244 rfl rfl (by omega) rfl ?_
  refine z_if_eq (tgt := 252) dX11_through_245 (by decide) (fun c245 => ?_) (fun c245 => ?_)
  · refine z_iconst (v := 1) dX11_through_252 (by decide) ?_
    refine z_istore dX11_through_253 (by decide) ?_
    show z_V _ _ _ _ _ _ _ _ _ [_, _, _, _, _, _, _, _] _ _
    refine z_iload_n dX11_through_255 rfl rfl ?_
    refine z_bipush (v := nI 14) dX11_through_256 (by decide) ?_
    refine z_icmp_ne (tgt := 310) dX11_through_258 (by decide) (fun _ => ?_) (fun c_ => absurd c_ (by decide +kernel))
    refine z_iload_n dX11_through_310 rfl rfl ?_
    refine z_bipush (v := nI 12) dX11_through_311 (by decide) ?_
    refine z_icmp_ne (tgt := 326) dX11_through_313 (by decide) (fun _ => ?_) (fun c_ => absurd c_ (by decide +kernel))
    refine z_iload_n dX11_through_326 rfl rfl ?_
    refine z_iconst (v := nI 3) dX11_through_327 (by decide) ?_
    refine z_bipush (v := nI 8) dX11_through_328 (by decide) ?_
    refine z_cS1 dX11_through_330 ml_X11_114 (sp_within) rfl rfl (Nat.le_of_ble_eq_true rfl) ?_
    refine z_if_eq (tgt := 372) dX11_through_333 (by decide) (fun c_ => absurd c_ (by decide +kernel)) (fun _ => ?_)
    refine z_aload_n dX11_through_336 rfl rfl ?_
    refine z_getI dX11_through_337 fl_X11_209 rfl rfl (show _ = nI (n + 1) by rw [z_up_o _ _ (Or.inr (by decide)), z_up_o _ _ (Or.inl (by decide))]; exact hsz) ?_
    refine z_iload dX11_through_340 rfl ?_
    refine z_icmp_le (tgt := 372) dX11_through_342 (by decide) (fun c_ => absurd c_ (nI_ge (by omega) (by omega))) (fun _ => ?_)
    refine z_aload_n dX11_through_345 rfl rfl ?_
    refine z_getR dX11_through_346 fl_X11_81 rfl rfl rfl ?_
    refine z_aload_n dX11_through_349 rfl rfl ?_
    refine z_getI dX11_through_350 fl_X11_209 rfl rfl (show _ = nI (n + 1) by rw [z_up_o _ _ (Or.inr (by decide)), z_up_o _ _ (Or.inl (by decide))]; exact hsz) ?_
    refine z_iconst (v := 1) dX11_through_353 (by decide) ?_
    refine z_isub dX11_through_354 (nI_pred n) ?_
    refine z_iald dX11_through_355 rfl rfl (by omega) (show _ = (cal (hg σ e) n 5 a b).2 113 n by rw [z_up_o _ _ (Or.inl (by decide)), z_up_o _ _ (Or.inl (by decide))]) ?_
    refine z_iconst (v := nI 2) dX11_through_356 (by decide) ?_
    refine z_icmp_ne (tgt := 372) dX11_through_357 (by decide) (fun _ => ?_) (fun c_ => absurd c_ (hkd))
    refine z_iconst (v := 0) dX11_through_372 (by decide) ?_
    exact z_iret dX11_through_373 rfl rfl rfl
  · refine z_iconst (v := nI 2) dX11_through_248 (by decide) ?_
    refine z_goto (tgt := 253) dX11_through_249 (by decide) ?_
    refine z_istore dX11_through_253 (by decide) ?_
    show z_V _ _ _ _ _ _ _ _ _ [_, _, _, _, _, _, _, _] _ _
    refine z_iload_n dX11_through_255 rfl rfl ?_
    refine z_bipush (v := nI 14) dX11_through_256 (by decide) ?_
    refine z_icmp_ne (tgt := 310) dX11_through_258 (by decide) (fun _ => ?_) (fun c_ => absurd c_ (by decide +kernel))
    refine z_iload_n dX11_through_310 rfl rfl ?_
    refine z_bipush (v := nI 12) dX11_through_311 (by decide) ?_
    refine z_icmp_ne (tgt := 326) dX11_through_313 (by decide) (fun _ => ?_) (fun c_ => absurd c_ (by decide +kernel))
    refine z_iload_n dX11_through_326 rfl rfl ?_
    refine z_iconst (v := nI 3) dX11_through_327 (by decide) ?_
    refine z_bipush (v := nI 8) dX11_through_328 (by decide) ?_
    refine z_cS1 dX11_through_330 ml_X11_114 (sp_within) rfl rfl (Nat.le_of_ble_eq_true rfl) ?_
    refine z_if_eq (tgt := 372) dX11_through_333 (by decide) (fun c_ => absurd c_ (by decide +kernel)) (fun _ => ?_)
    refine z_aload_n dX11_through_336 rfl rfl ?_
    refine z_getI dX11_through_337 fl_X11_209 rfl rfl (show _ = nI (n + 1) by rw [z_up_o _ _ (Or.inr (by decide)), z_up_o _ _ (Or.inl (by decide))]; exact hsz) ?_
    refine z_iload dX11_through_340 rfl ?_
    refine z_icmp_le (tgt := 372) dX11_through_342 (by decide) (fun c_ => absurd c_ (nI_ge (by omega) (by omega))) (fun _ => ?_)
    refine z_aload_n dX11_through_345 rfl rfl ?_
    refine z_getR dX11_through_346 fl_X11_81 rfl rfl rfl ?_
    refine z_aload_n dX11_through_349 rfl rfl ?_
    refine z_getI dX11_through_350 fl_X11_209 rfl rfl (show _ = nI (n + 1) by rw [z_up_o _ _ (Or.inr (by decide)), z_up_o _ _ (Or.inl (by decide))]; exact hsz) ?_
    refine z_iconst (v := 1) dX11_through_353 (by decide) ?_
    refine z_isub dX11_through_354 (nI_pred n) ?_
    refine z_iald dX11_through_355 rfl rfl (by omega) (show _ = (cal (hg σ e) n 5 a b).2 113 n by rw [z_up_o _ _ (Or.inl (by decide)), z_up_o _ _ (Or.inl (by decide))]) ?_
    refine z_iconst (v := nI 2) dX11_through_356 (by decide) ?_
    refine z_icmp_ne (tgt := 372) dX11_through_357 (by decide) (fun _ => ?_) (fun c_ => absurd c_ (hkd))
    refine z_iconst (v := 0) dX11_through_372 (by decide) ?_
    exact z_iret dX11_through_373 rfl rfl rfl
set_option maxRecDepth 100000 in
set_option maxHeartbeats 4000000 in
theorem sp_th6s {d : Nat} {σ : Nat → Nat → Int32} {τ : Nat → Nat → Int64} {j k n e : Nat} (hj : j < 30) (hk0 : σ 101 j = nI k) (hk : k < 40) (hn : σ 92 35 = nI n) (h40 : n < 40) (hop : σ 93 k = nI 6) (he : σ 92 44 = nI (e + 2)) (he8 : e + 2 ≤ 6) {b : Nat} (hb : σ 121 (e + 1) = nI b) (hb40 : b < 40) {a : Nat} (ha : σ 121 e = nI a) (ha40 : a < 40) (hsz : (cal (hg σ e) n 6 a b).2 92 35 = nI n) : z_MV M_X11_through (d + 2) 0 0 [.ref 92, .int (nI j)] (124, z_r0, σ, τ) (some (.int (0))) (124, z_r0, hg (z_up ((cal (hg σ e) n 6 a b).2) 121 e (nI (cal (hg σ e) n 6 a b).1)) (e + 1), τ) := by
  refine z_MV.of pn_X11_through (Nat.le_of_ble_eq_true rfl) (by simp [Value.category]) rfl ?_
  show z_V _ _ _ _ _ _ _ _ _ [_, _, _, _, _, _, _, _] _ _
  refine z_aload_n dX11_through_0 rfl rfl ?_
  refine z_getR dX11_through_1 fl_X11_41 rfl rfl rfl ?_
  refine z_iload_n dX11_through_4 rfl rfl ?_
  refine z_iald dX11_through_5 rfl rfl (by omega) hk0 ?_
  refine z_istore_n dX11_through_6 rfl (by decide) ?_
  show z_V _ _ _ _ _ _ _ _ _ [_, _, _, _, _, _, _, _] _ _
  refine z_aload_n dX11_through_7 rfl rfl ?_
  refine z_getR dX11_through_8 fl_X11_7 rfl rfl rfl ?_
  refine z_iload_n dX11_through_11 rfl rfl ?_
  refine z_iald dX11_through_12 rfl rfl (by omega) hop ?_
  refine z_istore_n dX11_through_13 rfl (by decide) ?_
  show z_V _ _ _ _ _ _ _ _ _ [_, _, _, _, _, _, _, _] _ _
  refine z_aload_n dX11_through_14 rfl rfl ?_
  refine z_getI dX11_through_15 fl_X11_209 rfl rfl hn ?_
  refine z_istore dX11_through_18 (by decide) ?_
  show z_V _ _ _ _ _ _ _ _ _ [_, _, _, _, _, _, _, _] _ _
  refine z_iload_n dX11_through_20 rfl rfl ?_
  refine z_cS1 dX11_through_21 ml_X11_133 (sp_rtakes (by decide)) rfl rfl (Nat.le_of_ble_eq_true rfl) ?_
  refine z_if_le (tgt := 41) dX11_through_24 (by decide) (fun c_ => absurd c_ (by decide +kernel)) (fun _ => ?_)
  refine z_aload_n dX11_through_27 rfl rfl ?_
  refine z_getR dX11_through_28 fl_X11_105 rfl rfl rfl ?_
  refine z_aload_n dX11_through_31 rfl rfl ?_
  refine z_getI dX11_through_32 fl_X11_216 rfl rfl he ?_
  refine z_iconst (v := 1) dX11_through_35 (by decide) ?_
  refine z_isub dX11_through_36 (nI_pred _) ?_
  refine z_iald dX11_through_37 rfl rfl (by omega) hb ?_
  refine z_goto (tgt := 42) dX11_through_38 (by decide) ?_
  refine z_istore dX11_through_42 (by decide) ?_
  show z_V _ _ _ _ _ _ _ _ _ [_, _, _, _, _, _, _, _] _ _
  refine z_iload_n dX11_through_44 rfl rfl ?_
  refine z_cS1 dX11_through_45 ml_X11_133 (sp_rtakes (by decide)) rfl rfl (Nat.le_of_ble_eq_true rfl) ?_
  refine z_iconst (v := 1) dX11_through_48 (by decide) ?_
  refine z_icmp_le (tgt := 66) dX11_through_49 (by decide) (fun c_ => absurd c_ (by decide +kernel)) (fun _ => ?_)
  refine z_aload_n dX11_through_52 rfl rfl ?_
  refine z_getR dX11_through_53 fl_X11_105 rfl rfl rfl ?_
  refine z_aload_n dX11_through_56 rfl rfl ?_
  refine z_getI dX11_through_57 fl_X11_216 rfl rfl he ?_
  refine z_iconst (v := nI 2) dX11_through_60 (by decide) ?_
  refine z_isub dX11_through_61 (show _ = nI e from pk_sub (Nat.le_add_left 2 e)) ?_
  refine z_iald dX11_through_62 rfl rfl (by omega) ha ?_
  refine z_goto (tgt := 67) dX11_through_63 (by decide) ?_
  refine z_istore dX11_through_67 (by decide) ?_
  show z_V _ _ _ _ _ _ _ _ _ [_, _, _, _, _, _, _, _] _ _
  refine z_aload_n dX11_through_69 rfl rfl ?_
  refine z_dup dX11_through_70 rfl ?_
  refine z_getI dX11_through_71 fl_X11_216 rfl rfl he ?_
  refine z_iload_n dX11_through_74 rfl rfl ?_
  refine z_cS1 dX11_through_75 ml_X11_133 (sp_rtakes (by decide)) rfl rfl (Nat.le_of_ble_eq_true rfl) ?_
  refine z_isub dX11_through_78 (show _ = nI e from pk_sub (Nat.le_add_left 2 e)) ?_
  refine z_putI dX11_through_79 fl_X11_216 rfl rfl (Or.inl rfl) rfl ?_
  show z_V _ _ _ _ _ _ _ _ _ _ _ (124, z_r0, hg σ e, τ)
  refine z_iload_n dX11_through_82 rfl rfl ?_
  refine z_if_ne (tgt := 108) dX11_through_83 (by decide) (fun _ => ?_) (fun c_ => absurd c_ (by decide +kernel))
  refine z_iload_n dX11_through_108 rfl rfl ?_
  refine z_iconst (v := 1) dX11_through_109 (by decide) ?_
  refine z_icmp_ne (tgt := 133) dX11_through_110 (by decide) (fun _ => ?_) (fun c_ => absurd c_ (by decide +kernel))
  refine z_iload_n dX11_through_133 rfl rfl ?_
  refine z_iconst (v := nI 2) dX11_through_134 (by decide) ?_
  refine z_icmp_ne (tgt := 151) dX11_through_135 (by decide) (fun _ => ?_) (fun c_ => absurd c_ (by decide +kernel))
  refine z_iload_n dX11_through_151 rfl rfl ?_
  refine z_iconst (v := nI 3) dX11_through_152 (by decide) ?_
  refine z_bipush (v := nI 8) dX11_through_153 (by decide) ?_
  refine z_cS1 dX11_through_155 ml_X11_114 (sp_within) rfl rfl (Nat.le_of_ble_eq_true rfl) ?_
  refine z_if_eq (tgt := 179) dX11_through_158 (by decide) (fun c_ => absurd c_ (by decide +kernel)) (fun _ => ?_)
  refine z_aload_n dX11_through_161 rfl rfl ?_
  refine z_getR dX11_through_162 fl_X11_105 rfl rfl rfl ?_
  refine z_aload_n dX11_through_165 rfl rfl ?_
  refine z_getI dX11_through_166 fl_X11_216 rfl rfl (show _ = nI e by simp [hg, z_up]) ?_
  refine z_aload_n dX11_through_169 rfl rfl ?_
  refine z_iload_n dX11_through_170 rfl rfl ?_
  refine z_iload dX11_through_171 rfl ?_
  refine z_iload dX11_through_173 rfl ?_
  refine z_cV1 dX11_through_175 ml_X11_219 (sp_calculated (show _ = nI n from hg_35.trans hn) h40 (by decide) (by decide) ha40 hb40) rfl ⟨by decide, rfl⟩ rfl rfl (Nat.le_of_ble_eq_true rfl) ?_
  refine z_iast dX11_through_178 rfl rfl (by omega) ?_
  refine z_iload_n dX11_through_179 rfl rfl ?_
  refine z_bipush (v := nI 9) dX11_through_180 (by decide) ?_
  refine z_icmp_eq (tgt := 191) dX11_through_182 (by decide) (fun c_ => absurd c_ (by decide +kernel)) (fun _ => ?_)
  refine z_iload_n dX11_through_185 rfl rfl ?_
  refine z_bipush (v := nI 11) dX11_through_186 (by decide) ?_
  refine z_icmp_ne (tgt := 226) dX11_through_188 (by decide) (fun _ => ?_) (fun c_ => absurd c_ (by decide +kernel))
  refine z_aload_n dX11_through_226 rfl rfl ?_
  refine z_dup dX11_through_227 rfl ?_
  refine z_getI dX11_through_228 fl_X11_216 rfl rfl (show _ = nI e by rw [z_up_o _ _ (Or.inl (by decide)), cal_44]; simp [hg, z_up]) ?_
  refine z_iload_n dX11_through_231 rfl rfl ?_
  refine z_cS1 dX11_through_232 ml_X11_136 (sp_rleaves (by decide)) rfl rfl (Nat.le_of_ble_eq_true rfl) ?_
  refine z_iadd dX11_through_235 (nI_add _ _) ?_
  refine z_putI dX11_through_236 fl_X11_216 rfl rfl (Or.inl rfl) rfl ?_
  refine z_aload_n dX11_through_239 rfl rfl ?_
  refine z_getR dX11_through_240 fl_X11_44 rfl rfl rfl ?_
  refine z_iload_n dX11_through_243 rfl rfl ?_
  refine z_zald dX11_through_244 rfl rfl (by omega) rfl ?_
  refine z_if_eq (tgt := 252) dX11_through_245 (by decide) (fun c245 => ?_) (fun c245 => ?_)
  · refine z_iconst (v := 1) dX11_through_252 (by decide) ?_
    refine z_istore dX11_through_253 (by decide) ?_
    show z_V _ _ _ _ _ _ _ _ _ [_, _, _, _, _, _, _, _] _ _
    refine z_iload_n dX11_through_255 rfl rfl ?_
    refine z_bipush (v := nI 14) dX11_through_256 (by decide) ?_
    refine z_icmp_ne (tgt := 310) dX11_through_258 (by decide) (fun _ => ?_) (fun c_ => absurd c_ (by decide +kernel))
    refine z_iload_n dX11_through_310 rfl rfl ?_
    refine z_bipush (v := nI 12) dX11_through_311 (by decide) ?_
    refine z_icmp_ne (tgt := 326) dX11_through_313 (by decide) (fun _ => ?_) (fun c_ => absurd c_ (by decide +kernel))
    refine z_iload_n dX11_through_326 rfl rfl ?_
    refine z_iconst (v := nI 3) dX11_through_327 (by decide) ?_
    refine z_bipush (v := nI 8) dX11_through_328 (by decide) ?_
    refine z_cS1 dX11_through_330 ml_X11_114 (sp_within) rfl rfl (Nat.le_of_ble_eq_true rfl) ?_
    refine z_if_eq (tgt := 372) dX11_through_333 (by decide) (fun c_ => absurd c_ (by decide +kernel)) (fun _ => ?_)
    refine z_aload_n dX11_through_336 rfl rfl ?_
    refine z_getI dX11_through_337 fl_X11_209 rfl rfl (show _ = nI n by rw [z_up_o _ _ (Or.inr (by decide)), z_up_o _ _ (Or.inl (by decide))]; exact hsz) ?_
    refine z_iload dX11_through_340 rfl ?_
    refine z_icmp_le (tgt := 372) dX11_through_342 (by decide) (fun _ => ?_) (fun c_ => absurd (Int32.le_refl _) c_)
    refine z_iconst (v := 0) dX11_through_372 (by decide) ?_
    exact z_iret dX11_through_373 rfl rfl rfl
  · refine z_iconst (v := nI 2) dX11_through_248 (by decide) ?_
    refine z_goto (tgt := 253) dX11_through_249 (by decide) ?_
    refine z_istore dX11_through_253 (by decide) ?_
    show z_V _ _ _ _ _ _ _ _ _ [_, _, _, _, _, _, _, _] _ _
    refine z_iload_n dX11_through_255 rfl rfl ?_
    refine z_bipush (v := nI 14) dX11_through_256 (by decide) ?_
    refine z_icmp_ne (tgt := 310) dX11_through_258 (by decide) (fun _ => ?_) (fun c_ => absurd c_ (by decide +kernel))
    refine z_iload_n dX11_through_310 rfl rfl ?_
    refine z_bipush (v := nI 12) dX11_through_311 (by decide) ?_
    refine z_icmp_ne (tgt := 326) dX11_through_313 (by decide) (fun _ => ?_) (fun c_ => absurd c_ (by decide +kernel))
    refine z_iload_n dX11_through_326 rfl rfl ?_
    refine z_iconst (v := nI 3) dX11_through_327 (by decide) ?_
    refine z_bipush (v := nI 8) dX11_through_328 (by decide) ?_
    refine z_cS1 dX11_through_330 ml_X11_114 (sp_within) rfl rfl (Nat.le_of_ble_eq_true rfl) ?_
    refine z_if_eq (tgt := 372) dX11_through_333 (by decide) (fun c_ => absurd c_ (by decide +kernel)) (fun _ => ?_)
    refine z_aload_n dX11_through_336 rfl rfl ?_
    refine z_getI dX11_through_337 fl_X11_209 rfl rfl (show _ = nI n by rw [z_up_o _ _ (Or.inr (by decide)), z_up_o _ _ (Or.inl (by decide))]; exact hsz) ?_
    refine z_iload dX11_through_340 rfl ?_
    refine z_icmp_le (tgt := 372) dX11_through_342 (by decide) (fun _ => ?_) (fun c_ => absurd (Int32.le_refl _) c_)
    refine z_iconst (v := 0) dX11_through_372 (by decide) ?_
    exact z_iret dX11_through_373 rfl rfl rfl
set_option maxRecDepth 100000 in
set_option maxHeartbeats 4000000 in
theorem sp_th6n {d : Nat} {σ : Nat → Nat → Int32} {τ : Nat → Nat → Int64} {j k n e : Nat} (hj : j < 30) (hk0 : σ 101 j = nI k) (hk : k < 40) (hn : σ 92 35 = nI n) (h40 : n < 40) (hop : σ 93 k = nI 6) (he : σ 92 44 = nI (e + 2)) (he8 : e + 2 ≤ 6) {b : Nat} (hb : σ 121 (e + 1) = nI b) (hb40 : b < 40) {a : Nat} (ha : σ 121 e = nI a) (ha40 : a < 40) (hsz : (cal (hg σ e) n 6 a b).2 92 35 = nI (n + 1)) (hkd : (cal (hg σ e) n 6 a b).2 113 n = nI 2) : z_MV M_X11_through (d + 2) 0 0 [.ref 92, .int (nI j)] (124, z_r0, σ, τ) (some (.int (-3 - nI n))) (124, z_r0, hg (z_up ((cal (hg σ e) n 6 a b).2) 121 e (nI (cal (hg σ e) n 6 a b).1)) (e + 1), τ) := by
  refine z_MV.of pn_X11_through (Nat.le_of_ble_eq_true rfl) (by simp [Value.category]) rfl ?_
  show z_V _ _ _ _ _ _ _ _ _ [_, _, _, _, _, _, _, _] _ _
  refine z_aload_n dX11_through_0 rfl rfl ?_
  refine z_getR dX11_through_1 fl_X11_41 rfl rfl rfl ?_
  refine z_iload_n dX11_through_4 rfl rfl ?_
  refine z_iald dX11_through_5 rfl rfl (by omega) hk0 ?_
  refine z_istore_n dX11_through_6 rfl (by decide) ?_
  show z_V _ _ _ _ _ _ _ _ _ [_, _, _, _, _, _, _, _] _ _
  refine z_aload_n dX11_through_7 rfl rfl ?_
  refine z_getR dX11_through_8 fl_X11_7 rfl rfl rfl ?_
  refine z_iload_n dX11_through_11 rfl rfl ?_
  refine z_iald dX11_through_12 rfl rfl (by omega) hop ?_
  refine z_istore_n dX11_through_13 rfl (by decide) ?_
  show z_V _ _ _ _ _ _ _ _ _ [_, _, _, _, _, _, _, _] _ _
  refine z_aload_n dX11_through_14 rfl rfl ?_
  refine z_getI dX11_through_15 fl_X11_209 rfl rfl hn ?_
  refine z_istore dX11_through_18 (by decide) ?_
  show z_V _ _ _ _ _ _ _ _ _ [_, _, _, _, _, _, _, _] _ _
  refine z_iload_n dX11_through_20 rfl rfl ?_
  refine z_cS1 dX11_through_21 ml_X11_133 (sp_rtakes (by decide)) rfl rfl (Nat.le_of_ble_eq_true rfl) ?_
  refine z_if_le (tgt := 41) dX11_through_24 (by decide) (fun c_ => absurd c_ (by decide +kernel)) (fun _ => ?_)
  refine z_aload_n dX11_through_27 rfl rfl ?_
  refine z_getR dX11_through_28 fl_X11_105 rfl rfl rfl ?_
  refine z_aload_n dX11_through_31 rfl rfl ?_
  refine z_getI dX11_through_32 fl_X11_216 rfl rfl he ?_
  refine z_iconst (v := 1) dX11_through_35 (by decide) ?_
  refine z_isub dX11_through_36 (nI_pred _) ?_
  refine z_iald dX11_through_37 rfl rfl (by omega) hb ?_
  refine z_goto (tgt := 42) dX11_through_38 (by decide) ?_
  refine z_istore dX11_through_42 (by decide) ?_
  show z_V _ _ _ _ _ _ _ _ _ [_, _, _, _, _, _, _, _] _ _
  refine z_iload_n dX11_through_44 rfl rfl ?_
  refine z_cS1 dX11_through_45 ml_X11_133 (sp_rtakes (by decide)) rfl rfl (Nat.le_of_ble_eq_true rfl) ?_
  refine z_iconst (v := 1) dX11_through_48 (by decide) ?_
  refine z_icmp_le (tgt := 66) dX11_through_49 (by decide) (fun c_ => absurd c_ (by decide +kernel)) (fun _ => ?_)
  refine z_aload_n dX11_through_52 rfl rfl ?_
  refine z_getR dX11_through_53 fl_X11_105 rfl rfl rfl ?_
  refine z_aload_n dX11_through_56 rfl rfl ?_
  refine z_getI dX11_through_57 fl_X11_216 rfl rfl he ?_
  refine z_iconst (v := nI 2) dX11_through_60 (by decide) ?_
  refine z_isub dX11_through_61 (show _ = nI e from pk_sub (Nat.le_add_left 2 e)) ?_
  refine z_iald dX11_through_62 rfl rfl (by omega) ha ?_
  refine z_goto (tgt := 67) dX11_through_63 (by decide) ?_
  refine z_istore dX11_through_67 (by decide) ?_
  show z_V _ _ _ _ _ _ _ _ _ [_, _, _, _, _, _, _, _] _ _
  refine z_aload_n dX11_through_69 rfl rfl ?_
  refine z_dup dX11_through_70 rfl ?_
  refine z_getI dX11_through_71 fl_X11_216 rfl rfl he ?_
  refine z_iload_n dX11_through_74 rfl rfl ?_
  refine z_cS1 dX11_through_75 ml_X11_133 (sp_rtakes (by decide)) rfl rfl (Nat.le_of_ble_eq_true rfl) ?_
  refine z_isub dX11_through_78 (show _ = nI e from pk_sub (Nat.le_add_left 2 e)) ?_
  refine z_putI dX11_through_79 fl_X11_216 rfl rfl (Or.inl rfl) rfl ?_
  show z_V _ _ _ _ _ _ _ _ _ _ _ (124, z_r0, hg σ e, τ)
  refine z_iload_n dX11_through_82 rfl rfl ?_
  refine z_if_ne (tgt := 108) dX11_through_83 (by decide) (fun _ => ?_) (fun c_ => absurd c_ (by decide +kernel))
  refine z_iload_n dX11_through_108 rfl rfl ?_
  refine z_iconst (v := 1) dX11_through_109 (by decide) ?_
  refine z_icmp_ne (tgt := 133) dX11_through_110 (by decide) (fun _ => ?_) (fun c_ => absurd c_ (by decide +kernel))
  refine z_iload_n dX11_through_133 rfl rfl ?_
  refine z_iconst (v := nI 2) dX11_through_134 (by decide) ?_
  refine z_icmp_ne (tgt := 151) dX11_through_135 (by decide) (fun _ => ?_) (fun c_ => absurd c_ (by decide +kernel))
  refine z_iload_n dX11_through_151 rfl rfl ?_
  refine z_iconst (v := nI 3) dX11_through_152 (by decide) ?_
  refine z_bipush (v := nI 8) dX11_through_153 (by decide) ?_
  refine z_cS1 dX11_through_155 ml_X11_114 (sp_within) rfl rfl (Nat.le_of_ble_eq_true rfl) ?_
  refine z_if_eq (tgt := 179) dX11_through_158 (by decide) (fun c_ => absurd c_ (by decide +kernel)) (fun _ => ?_)
  refine z_aload_n dX11_through_161 rfl rfl ?_
  refine z_getR dX11_through_162 fl_X11_105 rfl rfl rfl ?_
  refine z_aload_n dX11_through_165 rfl rfl ?_
  refine z_getI dX11_through_166 fl_X11_216 rfl rfl (show _ = nI e by simp [hg, z_up]) ?_
  refine z_aload_n dX11_through_169 rfl rfl ?_
  refine z_iload_n dX11_through_170 rfl rfl ?_
  refine z_iload dX11_through_171 rfl ?_
  refine z_iload dX11_through_173 rfl ?_
  refine z_cV1 dX11_through_175 ml_X11_219 (sp_calculated (show _ = nI n from hg_35.trans hn) h40 (by decide) (by decide) ha40 hb40) rfl ⟨by decide, rfl⟩ rfl rfl (Nat.le_of_ble_eq_true rfl) ?_
  refine z_iast dX11_through_178 rfl rfl (by omega) ?_
  refine z_iload_n dX11_through_179 rfl rfl ?_
  refine z_bipush (v := nI 9) dX11_through_180 (by decide) ?_
  refine z_icmp_eq (tgt := 191) dX11_through_182 (by decide) (fun c_ => absurd c_ (by decide +kernel)) (fun _ => ?_)
  refine z_iload_n dX11_through_185 rfl rfl ?_
  refine z_bipush (v := nI 11) dX11_through_186 (by decide) ?_
  refine z_icmp_ne (tgt := 226) dX11_through_188 (by decide) (fun _ => ?_) (fun c_ => absurd c_ (by decide +kernel))
  refine z_aload_n dX11_through_226 rfl rfl ?_
  refine z_dup dX11_through_227 rfl ?_
  refine z_getI dX11_through_228 fl_X11_216 rfl rfl (show _ = nI e by rw [z_up_o _ _ (Or.inl (by decide)), cal_44]; simp [hg, z_up]) ?_
  refine z_iload_n dX11_through_231 rfl rfl ?_
  refine z_cS1 dX11_through_232 ml_X11_136 (sp_rleaves (by decide)) rfl rfl (Nat.le_of_ble_eq_true rfl) ?_
  refine z_iadd dX11_through_235 (nI_add _ _) ?_
  refine z_putI dX11_through_236 fl_X11_216 rfl rfl (Or.inl rfl) rfl ?_
  refine z_aload_n dX11_through_239 rfl rfl ?_
  refine z_getR dX11_through_240 fl_X11_44 rfl rfl rfl ?_
  refine z_iload_n dX11_through_243 rfl rfl ?_
  refine z_zald dX11_through_244 rfl rfl (by omega) rfl ?_
  refine z_if_eq (tgt := 252) dX11_through_245 (by decide) (fun c245 => ?_) (fun c245 => ?_)
  · refine z_iconst (v := 1) dX11_through_252 (by decide) ?_
    refine z_istore dX11_through_253 (by decide) ?_
    show z_V _ _ _ _ _ _ _ _ _ [_, _, _, _, _, _, _, _] _ _
    refine z_iload_n dX11_through_255 rfl rfl ?_
    refine z_bipush (v := nI 14) dX11_through_256 (by decide) ?_
    refine z_icmp_ne (tgt := 310) dX11_through_258 (by decide) (fun _ => ?_) (fun c_ => absurd c_ (by decide +kernel))
    refine z_iload_n dX11_through_310 rfl rfl ?_
    refine z_bipush (v := nI 12) dX11_through_311 (by decide) ?_
    refine z_icmp_ne (tgt := 326) dX11_through_313 (by decide) (fun _ => ?_) (fun c_ => absurd c_ (by decide +kernel))
    refine z_iload_n dX11_through_326 rfl rfl ?_
    refine z_iconst (v := nI 3) dX11_through_327 (by decide) ?_
    refine z_bipush (v := nI 8) dX11_through_328 (by decide) ?_
    refine z_cS1 dX11_through_330 ml_X11_114 (sp_within) rfl rfl (Nat.le_of_ble_eq_true rfl) ?_
    refine z_if_eq (tgt := 372) dX11_through_333 (by decide) (fun c_ => absurd c_ (by decide +kernel)) (fun _ => ?_)
    refine z_aload_n dX11_through_336 rfl rfl ?_
    refine z_getI dX11_through_337 fl_X11_209 rfl rfl (show _ = nI (n + 1) by rw [z_up_o _ _ (Or.inr (by decide)), z_up_o _ _ (Or.inl (by decide))]; exact hsz) ?_
    refine z_iload dX11_through_340 rfl ?_
    refine z_icmp_le (tgt := 372) dX11_through_342 (by decide) (fun c_ => absurd c_ (nI_ge (by omega) (by omega))) (fun _ => ?_)
    refine z_aload_n dX11_through_345 rfl rfl ?_
    refine z_getR dX11_through_346 fl_X11_81 rfl rfl rfl ?_
    refine z_aload_n dX11_through_349 rfl rfl ?_
    refine z_getI dX11_through_350 fl_X11_209 rfl rfl (show _ = nI (n + 1) by rw [z_up_o _ _ (Or.inr (by decide)), z_up_o _ _ (Or.inl (by decide))]; exact hsz) ?_
    refine z_iconst (v := 1) dX11_through_353 (by decide) ?_
    refine z_isub dX11_through_354 (nI_pred n) ?_
    refine z_iald dX11_through_355 rfl rfl (by omega) (show _ = nI 2 by rw [z_up_o _ _ (Or.inl (by decide)), z_up_o _ _ (Or.inl (by decide))]; exact hkd) ?_
    refine z_iconst (v := nI 2) dX11_through_356 (by decide) ?_
    refine z_icmp_ne (tgt := 372) dX11_through_357 (by decide) (fun c_ => absurd (rfl) c_) (fun _ => ?_)
    refine z_bipush (v := (-3)) dX11_through_360 (by decide) ?_
    refine z_aload_n dX11_through_362 rfl rfl ?_
    refine z_getI dX11_through_363 fl_X11_209 rfl rfl (show _ = nI (n + 1) by rw [z_up_o _ _ (Or.inr (by decide)), z_up_o _ _ (Or.inl (by decide))]; exact hsz) ?_
    refine z_iconst (v := 1) dX11_through_366 (by decide) ?_
    refine z_isub dX11_through_367 (nI_pred n) ?_
    refine z_isub dX11_through_368 rfl ?_
    refine z_goto (tgt := 373) dX11_through_369 (by decide) ?_
    exact z_iret dX11_through_373 rfl rfl rfl
  · refine z_iconst (v := nI 2) dX11_through_248 (by decide) ?_
    refine z_goto (tgt := 253) dX11_through_249 (by decide) ?_
    refine z_istore dX11_through_253 (by decide) ?_
    show z_V _ _ _ _ _ _ _ _ _ [_, _, _, _, _, _, _, _] _ _
    refine z_iload_n dX11_through_255 rfl rfl ?_
    refine z_bipush (v := nI 14) dX11_through_256 (by decide) ?_
    refine z_icmp_ne (tgt := 310) dX11_through_258 (by decide) (fun _ => ?_) (fun c_ => absurd c_ (by decide +kernel))
    refine z_iload_n dX11_through_310 rfl rfl ?_
    refine z_bipush (v := nI 12) dX11_through_311 (by decide) ?_
    refine z_icmp_ne (tgt := 326) dX11_through_313 (by decide) (fun _ => ?_) (fun c_ => absurd c_ (by decide +kernel))
    refine z_iload_n dX11_through_326 rfl rfl ?_
    refine z_iconst (v := nI 3) dX11_through_327 (by decide) ?_
    refine z_bipush (v := nI 8) dX11_through_328 (by decide) ?_
    refine z_cS1 dX11_through_330 ml_X11_114 (sp_within) rfl rfl (Nat.le_of_ble_eq_true rfl) ?_
    refine z_if_eq (tgt := 372) dX11_through_333 (by decide) (fun c_ => absurd c_ (by decide +kernel)) (fun _ => ?_)
    refine z_aload_n dX11_through_336 rfl rfl ?_
    refine z_getI dX11_through_337 fl_X11_209 rfl rfl (show _ = nI (n + 1) by rw [z_up_o _ _ (Or.inr (by decide)), z_up_o _ _ (Or.inl (by decide))]; exact hsz) ?_
    refine z_iload dX11_through_340 rfl ?_
    refine z_icmp_le (tgt := 372) dX11_through_342 (by decide) (fun c_ => absurd c_ (nI_ge (by omega) (by omega))) (fun _ => ?_)
    refine z_aload_n dX11_through_345 rfl rfl ?_
    refine z_getR dX11_through_346 fl_X11_81 rfl rfl rfl ?_
    refine z_aload_n dX11_through_349 rfl rfl ?_
    refine z_getI dX11_through_350 fl_X11_209 rfl rfl (show _ = nI (n + 1) by rw [z_up_o _ _ (Or.inr (by decide)), z_up_o _ _ (Or.inl (by decide))]; exact hsz) ?_
    refine z_iconst (v := 1) dX11_through_353 (by decide) ?_
    refine z_isub dX11_through_354 (nI_pred n) ?_
    refine z_iald dX11_through_355 rfl rfl (by omega) (show _ = nI 2 by rw [z_up_o _ _ (Or.inl (by decide)), z_up_o _ _ (Or.inl (by decide))]; exact hkd) ?_
    refine z_iconst (v := nI 2) dX11_through_356 (by decide) ?_
    refine z_icmp_ne (tgt := 372) dX11_through_357 (by decide) (fun c_ => absurd (rfl) c_) (fun _ => ?_)
    refine z_bipush (v := (-3)) dX11_through_360 (by decide) ?_
    refine z_aload_n dX11_through_362 rfl rfl ?_
    refine z_getI dX11_through_363 fl_X11_209 rfl rfl (show _ = nI (n + 1) by rw [z_up_o _ _ (Or.inr (by decide)), z_up_o _ _ (Or.inl (by decide))]; exact hsz) ?_
    refine z_iconst (v := 1) dX11_through_366 (by decide) ?_
    refine z_isub dX11_through_367 (nI_pred n) ?_
    refine z_isub dX11_through_368 rfl ?_
    refine z_goto (tgt := 373) dX11_through_369 (by decide) ?_
    exact z_iret dX11_through_373 rfl rfl rfl
set_option maxRecDepth 100000 in
set_option maxHeartbeats 4000000 in
theorem sp_th6k {d : Nat} {σ : Nat → Nat → Int32} {τ : Nat → Nat → Int64} {j k n e : Nat} (hj : j < 30) (hk0 : σ 101 j = nI k) (hk : k < 40) (hn : σ 92 35 = nI n) (h40 : n < 40) (hop : σ 93 k = nI 6) (he : σ 92 44 = nI (e + 2)) (he8 : e + 2 ≤ 6) {b : Nat} (hb : σ 121 (e + 1) = nI b) (hb40 : b < 40) {a : Nat} (ha : σ 121 e = nI a) (ha40 : a < 40) (hsz : (cal (hg σ e) n 6 a b).2 92 35 = nI (n + 1)) (hkd : ¬ (cal (hg σ e) n 6 a b).2 113 n = nI 2) : z_MV M_X11_through (d + 2) 0 0 [.ref 92, .int (nI j)] (124, z_r0, σ, τ) (some (.int (0))) (124, z_r0, hg (z_up ((cal (hg σ e) n 6 a b).2) 121 e (nI (cal (hg σ e) n 6 a b).1)) (e + 1), τ) := by
  refine z_MV.of pn_X11_through (Nat.le_of_ble_eq_true rfl) (by simp [Value.category]) rfl ?_
  show z_V _ _ _ _ _ _ _ _ _ [_, _, _, _, _, _, _, _] _ _
  refine z_aload_n dX11_through_0 rfl rfl ?_
  refine z_getR dX11_through_1 fl_X11_41 rfl rfl rfl ?_
  refine z_iload_n dX11_through_4 rfl rfl ?_
  refine z_iald dX11_through_5 rfl rfl (by omega) hk0 ?_
  refine z_istore_n dX11_through_6 rfl (by decide) ?_
  show z_V _ _ _ _ _ _ _ _ _ [_, _, _, _, _, _, _, _] _ _
  refine z_aload_n dX11_through_7 rfl rfl ?_
  refine z_getR dX11_through_8 fl_X11_7 rfl rfl rfl ?_
  refine z_iload_n dX11_through_11 rfl rfl ?_
  refine z_iald dX11_through_12 rfl rfl (by omega) hop ?_
  refine z_istore_n dX11_through_13 rfl (by decide) ?_
  show z_V _ _ _ _ _ _ _ _ _ [_, _, _, _, _, _, _, _] _ _
  refine z_aload_n dX11_through_14 rfl rfl ?_
  refine z_getI dX11_through_15 fl_X11_209 rfl rfl hn ?_
  refine z_istore dX11_through_18 (by decide) ?_
  show z_V _ _ _ _ _ _ _ _ _ [_, _, _, _, _, _, _, _] _ _
  refine z_iload_n dX11_through_20 rfl rfl ?_
  refine z_cS1 dX11_through_21 ml_X11_133 (sp_rtakes (by decide)) rfl rfl (Nat.le_of_ble_eq_true rfl) ?_
  refine z_if_le (tgt := 41) dX11_through_24 (by decide) (fun c_ => absurd c_ (by decide +kernel)) (fun _ => ?_)
  refine z_aload_n dX11_through_27 rfl rfl ?_
  refine z_getR dX11_through_28 fl_X11_105 rfl rfl rfl ?_
  refine z_aload_n dX11_through_31 rfl rfl ?_
  refine z_getI dX11_through_32 fl_X11_216 rfl rfl he ?_
  refine z_iconst (v := 1) dX11_through_35 (by decide) ?_
  refine z_isub dX11_through_36 (nI_pred _) ?_
  refine z_iald dX11_through_37 rfl rfl (by omega) hb ?_
  refine z_goto (tgt := 42) dX11_through_38 (by decide) ?_
  refine z_istore dX11_through_42 (by decide) ?_
  show z_V _ _ _ _ _ _ _ _ _ [_, _, _, _, _, _, _, _] _ _
  refine z_iload_n dX11_through_44 rfl rfl ?_
  refine z_cS1 dX11_through_45 ml_X11_133 (sp_rtakes (by decide)) rfl rfl (Nat.le_of_ble_eq_true rfl) ?_
  refine z_iconst (v := 1) dX11_through_48 (by decide) ?_
  refine z_icmp_le (tgt := 66) dX11_through_49 (by decide) (fun c_ => absurd c_ (by decide +kernel)) (fun _ => ?_)
  refine z_aload_n dX11_through_52 rfl rfl ?_
  refine z_getR dX11_through_53 fl_X11_105 rfl rfl rfl ?_
  refine z_aload_n dX11_through_56 rfl rfl ?_
  refine z_getI dX11_through_57 fl_X11_216 rfl rfl he ?_
  refine z_iconst (v := nI 2) dX11_through_60 (by decide) ?_
  refine z_isub dX11_through_61 (show _ = nI e from pk_sub (Nat.le_add_left 2 e)) ?_
  refine z_iald dX11_through_62 rfl rfl (by omega) ha ?_
  refine z_goto (tgt := 67) dX11_through_63 (by decide) ?_
  refine z_istore dX11_through_67 (by decide) ?_
  show z_V _ _ _ _ _ _ _ _ _ [_, _, _, _, _, _, _, _] _ _
  refine z_aload_n dX11_through_69 rfl rfl ?_
  refine z_dup dX11_through_70 rfl ?_
  refine z_getI dX11_through_71 fl_X11_216 rfl rfl he ?_
  refine z_iload_n dX11_through_74 rfl rfl ?_
  refine z_cS1 dX11_through_75 ml_X11_133 (sp_rtakes (by decide)) rfl rfl (Nat.le_of_ble_eq_true rfl) ?_
  refine z_isub dX11_through_78 (show _ = nI e from pk_sub (Nat.le_add_left 2 e)) ?_
  refine z_putI dX11_through_79 fl_X11_216 rfl rfl (Or.inl rfl) rfl ?_
  show z_V _ _ _ _ _ _ _ _ _ _ _ (124, z_r0, hg σ e, τ)
  refine z_iload_n dX11_through_82 rfl rfl ?_
  refine z_if_ne (tgt := 108) dX11_through_83 (by decide) (fun _ => ?_) (fun c_ => absurd c_ (by decide +kernel))
  refine z_iload_n dX11_through_108 rfl rfl ?_
  refine z_iconst (v := 1) dX11_through_109 (by decide) ?_
  refine z_icmp_ne (tgt := 133) dX11_through_110 (by decide) (fun _ => ?_) (fun c_ => absurd c_ (by decide +kernel))
  refine z_iload_n dX11_through_133 rfl rfl ?_
  refine z_iconst (v := nI 2) dX11_through_134 (by decide) ?_
  refine z_icmp_ne (tgt := 151) dX11_through_135 (by decide) (fun _ => ?_) (fun c_ => absurd c_ (by decide +kernel))
  refine z_iload_n dX11_through_151 rfl rfl ?_
  refine z_iconst (v := nI 3) dX11_through_152 (by decide) ?_
  refine z_bipush (v := nI 8) dX11_through_153 (by decide) ?_
  refine z_cS1 dX11_through_155 ml_X11_114 (sp_within) rfl rfl (Nat.le_of_ble_eq_true rfl) ?_
  refine z_if_eq (tgt := 179) dX11_through_158 (by decide) (fun c_ => absurd c_ (by decide +kernel)) (fun _ => ?_)
  refine z_aload_n dX11_through_161 rfl rfl ?_
  refine z_getR dX11_through_162 fl_X11_105 rfl rfl rfl ?_
  refine z_aload_n dX11_through_165 rfl rfl ?_
  refine z_getI dX11_through_166 fl_X11_216 rfl rfl (show _ = nI e by simp [hg, z_up]) ?_
  refine z_aload_n dX11_through_169 rfl rfl ?_
  refine z_iload_n dX11_through_170 rfl rfl ?_
  refine z_iload dX11_through_171 rfl ?_
  refine z_iload dX11_through_173 rfl ?_
  refine z_cV1 dX11_through_175 ml_X11_219 (sp_calculated (show _ = nI n from hg_35.trans hn) h40 (by decide) (by decide) ha40 hb40) rfl ⟨by decide, rfl⟩ rfl rfl (Nat.le_of_ble_eq_true rfl) ?_
  refine z_iast dX11_through_178 rfl rfl (by omega) ?_
  refine z_iload_n dX11_through_179 rfl rfl ?_
  refine z_bipush (v := nI 9) dX11_through_180 (by decide) ?_
  refine z_icmp_eq (tgt := 191) dX11_through_182 (by decide) (fun c_ => absurd c_ (by decide +kernel)) (fun _ => ?_)
  refine z_iload_n dX11_through_185 rfl rfl ?_
  refine z_bipush (v := nI 11) dX11_through_186 (by decide) ?_
  refine z_icmp_ne (tgt := 226) dX11_through_188 (by decide) (fun _ => ?_) (fun c_ => absurd c_ (by decide +kernel))
  refine z_aload_n dX11_through_226 rfl rfl ?_
  refine z_dup dX11_through_227 rfl ?_
  refine z_getI dX11_through_228 fl_X11_216 rfl rfl (show _ = nI e by rw [z_up_o _ _ (Or.inl (by decide)), cal_44]; simp [hg, z_up]) ?_
  refine z_iload_n dX11_through_231 rfl rfl ?_
  refine z_cS1 dX11_through_232 ml_X11_136 (sp_rleaves (by decide)) rfl rfl (Nat.le_of_ble_eq_true rfl) ?_
  refine z_iadd dX11_through_235 (nI_add _ _) ?_
  refine z_putI dX11_through_236 fl_X11_216 rfl rfl (Or.inl rfl) rfl ?_
  refine z_aload_n dX11_through_239 rfl rfl ?_
  refine z_getR dX11_through_240 fl_X11_44 rfl rfl rfl ?_
  refine z_iload_n dX11_through_243 rfl rfl ?_
  refine z_zald dX11_through_244 rfl rfl (by omega) rfl ?_
  refine z_if_eq (tgt := 252) dX11_through_245 (by decide) (fun c245 => ?_) (fun c245 => ?_)
  · refine z_iconst (v := 1) dX11_through_252 (by decide) ?_
    refine z_istore dX11_through_253 (by decide) ?_
    show z_V _ _ _ _ _ _ _ _ _ [_, _, _, _, _, _, _, _] _ _
    refine z_iload_n dX11_through_255 rfl rfl ?_
    refine z_bipush (v := nI 14) dX11_through_256 (by decide) ?_
    refine z_icmp_ne (tgt := 310) dX11_through_258 (by decide) (fun _ => ?_) (fun c_ => absurd c_ (by decide +kernel))
    refine z_iload_n dX11_through_310 rfl rfl ?_
    refine z_bipush (v := nI 12) dX11_through_311 (by decide) ?_
    refine z_icmp_ne (tgt := 326) dX11_through_313 (by decide) (fun _ => ?_) (fun c_ => absurd c_ (by decide +kernel))
    refine z_iload_n dX11_through_326 rfl rfl ?_
    refine z_iconst (v := nI 3) dX11_through_327 (by decide) ?_
    refine z_bipush (v := nI 8) dX11_through_328 (by decide) ?_
    refine z_cS1 dX11_through_330 ml_X11_114 (sp_within) rfl rfl (Nat.le_of_ble_eq_true rfl) ?_
    refine z_if_eq (tgt := 372) dX11_through_333 (by decide) (fun c_ => absurd c_ (by decide +kernel)) (fun _ => ?_)
    refine z_aload_n dX11_through_336 rfl rfl ?_
    refine z_getI dX11_through_337 fl_X11_209 rfl rfl (show _ = nI (n + 1) by rw [z_up_o _ _ (Or.inr (by decide)), z_up_o _ _ (Or.inl (by decide))]; exact hsz) ?_
    refine z_iload dX11_through_340 rfl ?_
    refine z_icmp_le (tgt := 372) dX11_through_342 (by decide) (fun c_ => absurd c_ (nI_ge (by omega) (by omega))) (fun _ => ?_)
    refine z_aload_n dX11_through_345 rfl rfl ?_
    refine z_getR dX11_through_346 fl_X11_81 rfl rfl rfl ?_
    refine z_aload_n dX11_through_349 rfl rfl ?_
    refine z_getI dX11_through_350 fl_X11_209 rfl rfl (show _ = nI (n + 1) by rw [z_up_o _ _ (Or.inr (by decide)), z_up_o _ _ (Or.inl (by decide))]; exact hsz) ?_
    refine z_iconst (v := 1) dX11_through_353 (by decide) ?_
    refine z_isub dX11_through_354 (nI_pred n) ?_
    refine z_iald dX11_through_355 rfl rfl (by omega) (show _ = (cal (hg σ e) n 6 a b).2 113 n by rw [z_up_o _ _ (Or.inl (by decide)), z_up_o _ _ (Or.inl (by decide))]) ?_
    refine z_iconst (v := nI 2) dX11_through_356 (by decide) ?_
    refine z_icmp_ne (tgt := 372) dX11_through_357 (by decide) (fun _ => ?_) (fun c_ => absurd c_ (hkd))
    refine z_iconst (v := 0) dX11_through_372 (by decide) ?_
    exact z_iret dX11_through_373 rfl rfl rfl
  · refine z_iconst (v := nI 2) dX11_through_248 (by decide) ?_
    refine z_goto (tgt := 253) dX11_through_249 (by decide) ?_
    refine z_istore dX11_through_253 (by decide) ?_
    show z_V _ _ _ _ _ _ _ _ _ [_, _, _, _, _, _, _, _] _ _
    refine z_iload_n dX11_through_255 rfl rfl ?_
    refine z_bipush (v := nI 14) dX11_through_256 (by decide) ?_
    refine z_icmp_ne (tgt := 310) dX11_through_258 (by decide) (fun _ => ?_) (fun c_ => absurd c_ (by decide +kernel))
    refine z_iload_n dX11_through_310 rfl rfl ?_
    refine z_bipush (v := nI 12) dX11_through_311 (by decide) ?_
    refine z_icmp_ne (tgt := 326) dX11_through_313 (by decide) (fun _ => ?_) (fun c_ => absurd c_ (by decide +kernel))
    refine z_iload_n dX11_through_326 rfl rfl ?_
    refine z_iconst (v := nI 3) dX11_through_327 (by decide) ?_
    refine z_bipush (v := nI 8) dX11_through_328 (by decide) ?_
    refine z_cS1 dX11_through_330 ml_X11_114 (sp_within) rfl rfl (Nat.le_of_ble_eq_true rfl) ?_
    refine z_if_eq (tgt := 372) dX11_through_333 (by decide) (fun c_ => absurd c_ (by decide +kernel)) (fun _ => ?_)
    refine z_aload_n dX11_through_336 rfl rfl ?_
    refine z_getI dX11_through_337 fl_X11_209 rfl rfl (show _ = nI (n + 1) by rw [z_up_o _ _ (Or.inr (by decide)), z_up_o _ _ (Or.inl (by decide))]; exact hsz) ?_
    refine z_iload dX11_through_340 rfl ?_
    refine z_icmp_le (tgt := 372) dX11_through_342 (by decide) (fun c_ => absurd c_ (nI_ge (by omega) (by omega))) (fun _ => ?_)
    refine z_aload_n dX11_through_345 rfl rfl ?_
    refine z_getR dX11_through_346 fl_X11_81 rfl rfl rfl ?_
    refine z_aload_n dX11_through_349 rfl rfl ?_
    refine z_getI dX11_through_350 fl_X11_209 rfl rfl (show _ = nI (n + 1) by rw [z_up_o _ _ (Or.inr (by decide)), z_up_o _ _ (Or.inl (by decide))]; exact hsz) ?_
    refine z_iconst (v := 1) dX11_through_353 (by decide) ?_
    refine z_isub dX11_through_354 (nI_pred n) ?_
    refine z_iald dX11_through_355 rfl rfl (by omega) (show _ = (cal (hg σ e) n 6 a b).2 113 n by rw [z_up_o _ _ (Or.inl (by decide)), z_up_o _ _ (Or.inl (by decide))]) ?_
    refine z_iconst (v := nI 2) dX11_through_356 (by decide) ?_
    refine z_icmp_ne (tgt := 372) dX11_through_357 (by decide) (fun _ => ?_) (fun c_ => absurd c_ (hkd))
    refine z_iconst (v := 0) dX11_through_372 (by decide) ?_
    exact z_iret dX11_through_373 rfl rfl rfl
set_option maxRecDepth 100000 in
set_option maxHeartbeats 4000000 in
theorem sp_th7s {d : Nat} {σ : Nat → Nat → Int32} {τ : Nat → Nat → Int64} {j k n e : Nat} (hj : j < 30) (hk0 : σ 101 j = nI k) (hk : k < 40) (hn : σ 92 35 = nI n) (h40 : n < 40) (hop : σ 93 k = nI 7) (he : σ 92 44 = nI (e + 2)) (he8 : e + 2 ≤ 6) {b : Nat} (hb : σ 121 (e + 1) = nI b) (hb40 : b < 40) {a : Nat} (ha : σ 121 e = nI a) (ha40 : a < 40) (hsz : (cal (hg σ e) n 7 a b).2 92 35 = nI n) : z_MV M_X11_through (d + 2) 0 0 [.ref 92, .int (nI j)] (124, z_r0, σ, τ) (some (.int (0))) (124, z_r0, hg (z_up ((cal (hg σ e) n 7 a b).2) 121 e (nI (cal (hg σ e) n 7 a b).1)) (e + 1), τ) := by
  refine z_MV.of pn_X11_through (Nat.le_of_ble_eq_true rfl) (by simp [Value.category]) rfl ?_
  show z_V _ _ _ _ _ _ _ _ _ [_, _, _, _, _, _, _, _] _ _
  refine z_aload_n dX11_through_0 rfl rfl ?_
  refine z_getR dX11_through_1 fl_X11_41 rfl rfl rfl ?_
  refine z_iload_n dX11_through_4 rfl rfl ?_
  refine z_iald dX11_through_5 rfl rfl (by omega) hk0 ?_
  refine z_istore_n dX11_through_6 rfl (by decide) ?_
  show z_V _ _ _ _ _ _ _ _ _ [_, _, _, _, _, _, _, _] _ _
  refine z_aload_n dX11_through_7 rfl rfl ?_
  refine z_getR dX11_through_8 fl_X11_7 rfl rfl rfl ?_
  refine z_iload_n dX11_through_11 rfl rfl ?_
  refine z_iald dX11_through_12 rfl rfl (by omega) hop ?_
  refine z_istore_n dX11_through_13 rfl (by decide) ?_
  show z_V _ _ _ _ _ _ _ _ _ [_, _, _, _, _, _, _, _] _ _
  refine z_aload_n dX11_through_14 rfl rfl ?_
  refine z_getI dX11_through_15 fl_X11_209 rfl rfl hn ?_
  refine z_istore dX11_through_18 (by decide) ?_
  show z_V _ _ _ _ _ _ _ _ _ [_, _, _, _, _, _, _, _] _ _
  refine z_iload_n dX11_through_20 rfl rfl ?_
  refine z_cS1 dX11_through_21 ml_X11_133 (sp_rtakes (by decide)) rfl rfl (Nat.le_of_ble_eq_true rfl) ?_
  refine z_if_le (tgt := 41) dX11_through_24 (by decide) (fun c_ => absurd c_ (by decide +kernel)) (fun _ => ?_)
  refine z_aload_n dX11_through_27 rfl rfl ?_
  refine z_getR dX11_through_28 fl_X11_105 rfl rfl rfl ?_
  refine z_aload_n dX11_through_31 rfl rfl ?_
  refine z_getI dX11_through_32 fl_X11_216 rfl rfl he ?_
  refine z_iconst (v := 1) dX11_through_35 (by decide) ?_
  refine z_isub dX11_through_36 (nI_pred _) ?_
  refine z_iald dX11_through_37 rfl rfl (by omega) hb ?_
  refine z_goto (tgt := 42) dX11_through_38 (by decide) ?_
  refine z_istore dX11_through_42 (by decide) ?_
  show z_V _ _ _ _ _ _ _ _ _ [_, _, _, _, _, _, _, _] _ _
  refine z_iload_n dX11_through_44 rfl rfl ?_
  refine z_cS1 dX11_through_45 ml_X11_133 (sp_rtakes (by decide)) rfl rfl (Nat.le_of_ble_eq_true rfl) ?_
  refine z_iconst (v := 1) dX11_through_48 (by decide) ?_
  refine z_icmp_le (tgt := 66) dX11_through_49 (by decide) (fun c_ => absurd c_ (by decide +kernel)) (fun _ => ?_)
  refine z_aload_n dX11_through_52 rfl rfl ?_
  refine z_getR dX11_through_53 fl_X11_105 rfl rfl rfl ?_
  refine z_aload_n dX11_through_56 rfl rfl ?_
  refine z_getI dX11_through_57 fl_X11_216 rfl rfl he ?_
  refine z_iconst (v := nI 2) dX11_through_60 (by decide) ?_
  refine z_isub dX11_through_61 (show _ = nI e from pk_sub (Nat.le_add_left 2 e)) ?_
  refine z_iald dX11_through_62 rfl rfl (by omega) ha ?_
  refine z_goto (tgt := 67) dX11_through_63 (by decide) ?_
  refine z_istore dX11_through_67 (by decide) ?_
  show z_V _ _ _ _ _ _ _ _ _ [_, _, _, _, _, _, _, _] _ _
  refine z_aload_n dX11_through_69 rfl rfl ?_
  refine z_dup dX11_through_70 rfl ?_
  refine z_getI dX11_through_71 fl_X11_216 rfl rfl he ?_
  refine z_iload_n dX11_through_74 rfl rfl ?_
  refine z_cS1 dX11_through_75 ml_X11_133 (sp_rtakes (by decide)) rfl rfl (Nat.le_of_ble_eq_true rfl) ?_
  refine z_isub dX11_through_78 (show _ = nI e from pk_sub (Nat.le_add_left 2 e)) ?_
  refine z_putI dX11_through_79 fl_X11_216 rfl rfl (Or.inl rfl) rfl ?_
  show z_V _ _ _ _ _ _ _ _ _ _ _ (124, z_r0, hg σ e, τ)
  refine z_iload_n dX11_through_82 rfl rfl ?_
  refine z_if_ne (tgt := 108) dX11_through_83 (by decide) (fun _ => ?_) (fun c_ => absurd c_ (by decide +kernel))
  refine z_iload_n dX11_through_108 rfl rfl ?_
  refine z_iconst (v := 1) dX11_through_109 (by decide) ?_
  refine z_icmp_ne (tgt := 133) dX11_through_110 (by decide) (fun _ => ?_) (fun c_ => absurd c_ (by decide +kernel))
  refine z_iload_n dX11_through_133 rfl rfl ?_
  refine z_iconst (v := nI 2) dX11_through_134 (by decide) ?_
  refine z_icmp_ne (tgt := 151) dX11_through_135 (by decide) (fun _ => ?_) (fun c_ => absurd c_ (by decide +kernel))
  refine z_iload_n dX11_through_151 rfl rfl ?_
  refine z_iconst (v := nI 3) dX11_through_152 (by decide) ?_
  refine z_bipush (v := nI 8) dX11_through_153 (by decide) ?_
  refine z_cS1 dX11_through_155 ml_X11_114 (sp_within) rfl rfl (Nat.le_of_ble_eq_true rfl) ?_
  refine z_if_eq (tgt := 179) dX11_through_158 (by decide) (fun c_ => absurd c_ (by decide +kernel)) (fun _ => ?_)
  refine z_aload_n dX11_through_161 rfl rfl ?_
  refine z_getR dX11_through_162 fl_X11_105 rfl rfl rfl ?_
  refine z_aload_n dX11_through_165 rfl rfl ?_
  refine z_getI dX11_through_166 fl_X11_216 rfl rfl (show _ = nI e by simp [hg, z_up]) ?_
  refine z_aload_n dX11_through_169 rfl rfl ?_
  refine z_iload_n dX11_through_170 rfl rfl ?_
  refine z_iload dX11_through_171 rfl ?_
  refine z_iload dX11_through_173 rfl ?_
  refine z_cV1 dX11_through_175 ml_X11_219 (sp_calculated (show _ = nI n from hg_35.trans hn) h40 (by decide) (by decide) ha40 hb40) rfl ⟨by decide, rfl⟩ rfl rfl (Nat.le_of_ble_eq_true rfl) ?_
  refine z_iast dX11_through_178 rfl rfl (by omega) ?_
  refine z_iload_n dX11_through_179 rfl rfl ?_
  refine z_bipush (v := nI 9) dX11_through_180 (by decide) ?_
  refine z_icmp_eq (tgt := 191) dX11_through_182 (by decide) (fun c_ => absurd c_ (by decide +kernel)) (fun _ => ?_)
  refine z_iload_n dX11_through_185 rfl rfl ?_
  refine z_bipush (v := nI 11) dX11_through_186 (by decide) ?_
  refine z_icmp_ne (tgt := 226) dX11_through_188 (by decide) (fun _ => ?_) (fun c_ => absurd c_ (by decide +kernel))
  refine z_aload_n dX11_through_226 rfl rfl ?_
  refine z_dup dX11_through_227 rfl ?_
  refine z_getI dX11_through_228 fl_X11_216 rfl rfl (show _ = nI e by rw [z_up_o _ _ (Or.inl (by decide)), cal_44]; simp [hg, z_up]) ?_
  refine z_iload_n dX11_through_231 rfl rfl ?_
  refine z_cS1 dX11_through_232 ml_X11_136 (sp_rleaves (by decide)) rfl rfl (Nat.le_of_ble_eq_true rfl) ?_
  refine z_iadd dX11_through_235 (nI_add _ _) ?_
  refine z_putI dX11_through_236 fl_X11_216 rfl rfl (Or.inl rfl) rfl ?_
  refine z_aload_n dX11_through_239 rfl rfl ?_
  refine z_getR dX11_through_240 fl_X11_44 rfl rfl rfl ?_
  refine z_iload_n dX11_through_243 rfl rfl ?_
  refine z_zald dX11_through_244 rfl rfl (by omega) rfl ?_
  refine z_if_eq (tgt := 252) dX11_through_245 (by decide) (fun c245 => ?_) (fun c245 => ?_)
  · refine z_iconst (v := 1) dX11_through_252 (by decide) ?_
    refine z_istore dX11_through_253 (by decide) ?_
    show z_V _ _ _ _ _ _ _ _ _ [_, _, _, _, _, _, _, _] _ _
    refine z_iload_n dX11_through_255 rfl rfl ?_
    refine z_bipush (v := nI 14) dX11_through_256 (by decide) ?_
    refine z_icmp_ne (tgt := 310) dX11_through_258 (by decide) (fun _ => ?_) (fun c_ => absurd c_ (by decide +kernel))
    refine z_iload_n dX11_through_310 rfl rfl ?_
    refine z_bipush (v := nI 12) dX11_through_311 (by decide) ?_
    refine z_icmp_ne (tgt := 326) dX11_through_313 (by decide) (fun _ => ?_) (fun c_ => absurd c_ (by decide +kernel))
    refine z_iload_n dX11_through_326 rfl rfl ?_
    refine z_iconst (v := nI 3) dX11_through_327 (by decide) ?_
    refine z_bipush (v := nI 8) dX11_through_328 (by decide) ?_
    refine z_cS1 dX11_through_330 ml_X11_114 (sp_within) rfl rfl (Nat.le_of_ble_eq_true rfl) ?_
    refine z_if_eq (tgt := 372) dX11_through_333 (by decide) (fun c_ => absurd c_ (by decide +kernel)) (fun _ => ?_)
    refine z_aload_n dX11_through_336 rfl rfl ?_
    refine z_getI dX11_through_337 fl_X11_209 rfl rfl (show _ = nI n by rw [z_up_o _ _ (Or.inr (by decide)), z_up_o _ _ (Or.inl (by decide))]; exact hsz) ?_
    refine z_iload dX11_through_340 rfl ?_
    refine z_icmp_le (tgt := 372) dX11_through_342 (by decide) (fun _ => ?_) (fun c_ => absurd (Int32.le_refl _) c_)
    refine z_iconst (v := 0) dX11_through_372 (by decide) ?_
    exact z_iret dX11_through_373 rfl rfl rfl
  · refine z_iconst (v := nI 2) dX11_through_248 (by decide) ?_
    refine z_goto (tgt := 253) dX11_through_249 (by decide) ?_
    refine z_istore dX11_through_253 (by decide) ?_
    show z_V _ _ _ _ _ _ _ _ _ [_, _, _, _, _, _, _, _] _ _
    refine z_iload_n dX11_through_255 rfl rfl ?_
    refine z_bipush (v := nI 14) dX11_through_256 (by decide) ?_
    refine z_icmp_ne (tgt := 310) dX11_through_258 (by decide) (fun _ => ?_) (fun c_ => absurd c_ (by decide +kernel))
    refine z_iload_n dX11_through_310 rfl rfl ?_
    refine z_bipush (v := nI 12) dX11_through_311 (by decide) ?_
    refine z_icmp_ne (tgt := 326) dX11_through_313 (by decide) (fun _ => ?_) (fun c_ => absurd c_ (by decide +kernel))
    refine z_iload_n dX11_through_326 rfl rfl ?_
    refine z_iconst (v := nI 3) dX11_through_327 (by decide) ?_
    refine z_bipush (v := nI 8) dX11_through_328 (by decide) ?_
    refine z_cS1 dX11_through_330 ml_X11_114 (sp_within) rfl rfl (Nat.le_of_ble_eq_true rfl) ?_
    refine z_if_eq (tgt := 372) dX11_through_333 (by decide) (fun c_ => absurd c_ (by decide +kernel)) (fun _ => ?_)
    refine z_aload_n dX11_through_336 rfl rfl ?_
    refine z_getI dX11_through_337 fl_X11_209 rfl rfl (show _ = nI n by rw [z_up_o _ _ (Or.inr (by decide)), z_up_o _ _ (Or.inl (by decide))]; exact hsz) ?_
    refine z_iload dX11_through_340 rfl ?_
    refine z_icmp_le (tgt := 372) dX11_through_342 (by decide) (fun _ => ?_) (fun c_ => absurd (Int32.le_refl _) c_)
    refine z_iconst (v := 0) dX11_through_372 (by decide) ?_
    exact z_iret dX11_through_373 rfl rfl rfl
set_option maxRecDepth 100000 in
set_option maxHeartbeats 4000000 in
theorem sp_th7n {d : Nat} {σ : Nat → Nat → Int32} {τ : Nat → Nat → Int64} {j k n e : Nat} (hj : j < 30) (hk0 : σ 101 j = nI k) (hk : k < 40) (hn : σ 92 35 = nI n) (h40 : n < 40) (hop : σ 93 k = nI 7) (he : σ 92 44 = nI (e + 2)) (he8 : e + 2 ≤ 6) {b : Nat} (hb : σ 121 (e + 1) = nI b) (hb40 : b < 40) {a : Nat} (ha : σ 121 e = nI a) (ha40 : a < 40) (hsz : (cal (hg σ e) n 7 a b).2 92 35 = nI (n + 1)) (hkd : (cal (hg σ e) n 7 a b).2 113 n = nI 2) : z_MV M_X11_through (d + 2) 0 0 [.ref 92, .int (nI j)] (124, z_r0, σ, τ) (some (.int (-3 - nI n))) (124, z_r0, hg (z_up ((cal (hg σ e) n 7 a b).2) 121 e (nI (cal (hg σ e) n 7 a b).1)) (e + 1), τ) := by
  refine z_MV.of pn_X11_through (Nat.le_of_ble_eq_true rfl) (by simp [Value.category]) rfl ?_
  show z_V _ _ _ _ _ _ _ _ _ [_, _, _, _, _, _, _, _] _ _
  refine z_aload_n dX11_through_0 rfl rfl ?_
  refine z_getR dX11_through_1 fl_X11_41 rfl rfl rfl ?_
  refine z_iload_n dX11_through_4 rfl rfl ?_
  refine z_iald dX11_through_5 rfl rfl (by omega) hk0 ?_
  refine z_istore_n dX11_through_6 rfl (by decide) ?_
  show z_V _ _ _ _ _ _ _ _ _ [_, _, _, _, _, _, _, _] _ _
  refine z_aload_n dX11_through_7 rfl rfl ?_
  refine z_getR dX11_through_8 fl_X11_7 rfl rfl rfl ?_
  refine z_iload_n dX11_through_11 rfl rfl ?_
  refine z_iald dX11_through_12 rfl rfl (by omega) hop ?_
  refine z_istore_n dX11_through_13 rfl (by decide) ?_
  show z_V _ _ _ _ _ _ _ _ _ [_, _, _, _, _, _, _, _] _ _
  refine z_aload_n dX11_through_14 rfl rfl ?_
  refine z_getI dX11_through_15 fl_X11_209 rfl rfl hn ?_
  refine z_istore dX11_through_18 (by decide) ?_
  show z_V _ _ _ _ _ _ _ _ _ [_, _, _, _, _, _, _, _] _ _
  refine z_iload_n dX11_through_20 rfl rfl ?_
  refine z_cS1 dX11_through_21 ml_X11_133 (sp_rtakes (by decide)) rfl rfl (Nat.le_of_ble_eq_true rfl) ?_
  refine z_if_le (tgt := 41) dX11_through_24 (by decide) (fun c_ => absurd c_ (by decide +kernel)) (fun _ => ?_)
  refine z_aload_n dX11_through_27 rfl rfl ?_
  refine z_getR dX11_through_28 fl_X11_105 rfl rfl rfl ?_
  refine z_aload_n dX11_through_31 rfl rfl ?_
  refine z_getI dX11_through_32 fl_X11_216 rfl rfl he ?_
  refine z_iconst (v := 1) dX11_through_35 (by decide) ?_
  refine z_isub dX11_through_36 (nI_pred _) ?_
  refine z_iald dX11_through_37 rfl rfl (by omega) hb ?_
  refine z_goto (tgt := 42) dX11_through_38 (by decide) ?_
  refine z_istore dX11_through_42 (by decide) ?_
  show z_V _ _ _ _ _ _ _ _ _ [_, _, _, _, _, _, _, _] _ _
  refine z_iload_n dX11_through_44 rfl rfl ?_
  refine z_cS1 dX11_through_45 ml_X11_133 (sp_rtakes (by decide)) rfl rfl (Nat.le_of_ble_eq_true rfl) ?_
  refine z_iconst (v := 1) dX11_through_48 (by decide) ?_
  refine z_icmp_le (tgt := 66) dX11_through_49 (by decide) (fun c_ => absurd c_ (by decide +kernel)) (fun _ => ?_)
  refine z_aload_n dX11_through_52 rfl rfl ?_
  refine z_getR dX11_through_53 fl_X11_105 rfl rfl rfl ?_
  refine z_aload_n dX11_through_56 rfl rfl ?_
  refine z_getI dX11_through_57 fl_X11_216 rfl rfl he ?_
  refine z_iconst (v := nI 2) dX11_through_60 (by decide) ?_
  refine z_isub dX11_through_61 (show _ = nI e from pk_sub (Nat.le_add_left 2 e)) ?_
  refine z_iald dX11_through_62 rfl rfl (by omega) ha ?_
  refine z_goto (tgt := 67) dX11_through_63 (by decide) ?_
  refine z_istore dX11_through_67 (by decide) ?_
  show z_V _ _ _ _ _ _ _ _ _ [_, _, _, _, _, _, _, _] _ _
  refine z_aload_n dX11_through_69 rfl rfl ?_
  refine z_dup dX11_through_70 rfl ?_
  refine z_getI dX11_through_71 fl_X11_216 rfl rfl he ?_
  refine z_iload_n dX11_through_74 rfl rfl ?_
  refine z_cS1 dX11_through_75 ml_X11_133 (sp_rtakes (by decide)) rfl rfl (Nat.le_of_ble_eq_true rfl) ?_
  refine z_isub dX11_through_78 (show _ = nI e from pk_sub (Nat.le_add_left 2 e)) ?_
  refine z_putI dX11_through_79 fl_X11_216 rfl rfl (Or.inl rfl) rfl ?_
  show z_V _ _ _ _ _ _ _ _ _ _ _ (124, z_r0, hg σ e, τ)
  refine z_iload_n dX11_through_82 rfl rfl ?_
  refine z_if_ne (tgt := 108) dX11_through_83 (by decide) (fun _ => ?_) (fun c_ => absurd c_ (by decide +kernel))
  refine z_iload_n dX11_through_108 rfl rfl ?_
  refine z_iconst (v := 1) dX11_through_109 (by decide) ?_
  refine z_icmp_ne (tgt := 133) dX11_through_110 (by decide) (fun _ => ?_) (fun c_ => absurd c_ (by decide +kernel))
  refine z_iload_n dX11_through_133 rfl rfl ?_
  refine z_iconst (v := nI 2) dX11_through_134 (by decide) ?_
  refine z_icmp_ne (tgt := 151) dX11_through_135 (by decide) (fun _ => ?_) (fun c_ => absurd c_ (by decide +kernel))
  refine z_iload_n dX11_through_151 rfl rfl ?_
  refine z_iconst (v := nI 3) dX11_through_152 (by decide) ?_
  refine z_bipush (v := nI 8) dX11_through_153 (by decide) ?_
  refine z_cS1 dX11_through_155 ml_X11_114 (sp_within) rfl rfl (Nat.le_of_ble_eq_true rfl) ?_
  refine z_if_eq (tgt := 179) dX11_through_158 (by decide) (fun c_ => absurd c_ (by decide +kernel)) (fun _ => ?_)
  refine z_aload_n dX11_through_161 rfl rfl ?_
  refine z_getR dX11_through_162 fl_X11_105 rfl rfl rfl ?_
  refine z_aload_n dX11_through_165 rfl rfl ?_
  refine z_getI dX11_through_166 fl_X11_216 rfl rfl (show _ = nI e by simp [hg, z_up]) ?_
  refine z_aload_n dX11_through_169 rfl rfl ?_
  refine z_iload_n dX11_through_170 rfl rfl ?_
  refine z_iload dX11_through_171 rfl ?_
  refine z_iload dX11_through_173 rfl ?_
  refine z_cV1 dX11_through_175 ml_X11_219 (sp_calculated (show _ = nI n from hg_35.trans hn) h40 (by decide) (by decide) ha40 hb40) rfl ⟨by decide, rfl⟩ rfl rfl (Nat.le_of_ble_eq_true rfl) ?_
  refine z_iast dX11_through_178 rfl rfl (by omega) ?_
  refine z_iload_n dX11_through_179 rfl rfl ?_
  refine z_bipush (v := nI 9) dX11_through_180 (by decide) ?_
  refine z_icmp_eq (tgt := 191) dX11_through_182 (by decide) (fun c_ => absurd c_ (by decide +kernel)) (fun _ => ?_)
  refine z_iload_n dX11_through_185 rfl rfl ?_
  refine z_bipush (v := nI 11) dX11_through_186 (by decide) ?_
  refine z_icmp_ne (tgt := 226) dX11_through_188 (by decide) (fun _ => ?_) (fun c_ => absurd c_ (by decide +kernel))
  refine z_aload_n dX11_through_226 rfl rfl ?_
  refine z_dup dX11_through_227 rfl ?_
  refine z_getI dX11_through_228 fl_X11_216 rfl rfl (show _ = nI e by rw [z_up_o _ _ (Or.inl (by decide)), cal_44]; simp [hg, z_up]) ?_
  refine z_iload_n dX11_through_231 rfl rfl ?_
  refine z_cS1 dX11_through_232 ml_X11_136 (sp_rleaves (by decide)) rfl rfl (Nat.le_of_ble_eq_true rfl) ?_
  refine z_iadd dX11_through_235 (nI_add _ _) ?_
  refine z_putI dX11_through_236 fl_X11_216 rfl rfl (Or.inl rfl) rfl ?_
  refine z_aload_n dX11_through_239 rfl rfl ?_
  refine z_getR dX11_through_240 fl_X11_44 rfl rfl rfl ?_
  refine z_iload_n dX11_through_243 rfl rfl ?_
  refine z_zald dX11_through_244 rfl rfl (by omega) rfl ?_
  refine z_if_eq (tgt := 252) dX11_through_245 (by decide) (fun c245 => ?_) (fun c245 => ?_)
  · refine z_iconst (v := 1) dX11_through_252 (by decide) ?_
    refine z_istore dX11_through_253 (by decide) ?_
    show z_V _ _ _ _ _ _ _ _ _ [_, _, _, _, _, _, _, _] _ _
    refine z_iload_n dX11_through_255 rfl rfl ?_
    refine z_bipush (v := nI 14) dX11_through_256 (by decide) ?_
    refine z_icmp_ne (tgt := 310) dX11_through_258 (by decide) (fun _ => ?_) (fun c_ => absurd c_ (by decide +kernel))
    refine z_iload_n dX11_through_310 rfl rfl ?_
    refine z_bipush (v := nI 12) dX11_through_311 (by decide) ?_
    refine z_icmp_ne (tgt := 326) dX11_through_313 (by decide) (fun _ => ?_) (fun c_ => absurd c_ (by decide +kernel))
    refine z_iload_n dX11_through_326 rfl rfl ?_
    refine z_iconst (v := nI 3) dX11_through_327 (by decide) ?_
    refine z_bipush (v := nI 8) dX11_through_328 (by decide) ?_
    refine z_cS1 dX11_through_330 ml_X11_114 (sp_within) rfl rfl (Nat.le_of_ble_eq_true rfl) ?_
    refine z_if_eq (tgt := 372) dX11_through_333 (by decide) (fun c_ => absurd c_ (by decide +kernel)) (fun _ => ?_)
    refine z_aload_n dX11_through_336 rfl rfl ?_
    refine z_getI dX11_through_337 fl_X11_209 rfl rfl (show _ = nI (n + 1) by rw [z_up_o _ _ (Or.inr (by decide)), z_up_o _ _ (Or.inl (by decide))]; exact hsz) ?_
    refine z_iload dX11_through_340 rfl ?_
    refine z_icmp_le (tgt := 372) dX11_through_342 (by decide) (fun c_ => absurd c_ (nI_ge (by omega) (by omega))) (fun _ => ?_)
    refine z_aload_n dX11_through_345 rfl rfl ?_
    refine z_getR dX11_through_346 fl_X11_81 rfl rfl rfl ?_
    refine z_aload_n dX11_through_349 rfl rfl ?_
    refine z_getI dX11_through_350 fl_X11_209 rfl rfl (show _ = nI (n + 1) by rw [z_up_o _ _ (Or.inr (by decide)), z_up_o _ _ (Or.inl (by decide))]; exact hsz) ?_
    refine z_iconst (v := 1) dX11_through_353 (by decide) ?_
    refine z_isub dX11_through_354 (nI_pred n) ?_
    refine z_iald dX11_through_355 rfl rfl (by omega) (show _ = nI 2 by rw [z_up_o _ _ (Or.inl (by decide)), z_up_o _ _ (Or.inl (by decide))]; exact hkd) ?_
    refine z_iconst (v := nI 2) dX11_through_356 (by decide) ?_
    refine z_icmp_ne (tgt := 372) dX11_through_357 (by decide) (fun c_ => absurd (rfl) c_) (fun _ => ?_)
    refine z_bipush (v := (-3)) dX11_through_360 (by decide) ?_
    refine z_aload_n dX11_through_362 rfl rfl ?_
    refine z_getI dX11_through_363 fl_X11_209 rfl rfl (show _ = nI (n + 1) by rw [z_up_o _ _ (Or.inr (by decide)), z_up_o _ _ (Or.inl (by decide))]; exact hsz) ?_
    refine z_iconst (v := 1) dX11_through_366 (by decide) ?_
    refine z_isub dX11_through_367 (nI_pred n) ?_
    refine z_isub dX11_through_368 rfl ?_
    refine z_goto (tgt := 373) dX11_through_369 (by decide) ?_
    exact z_iret dX11_through_373 rfl rfl rfl
  · refine z_iconst (v := nI 2) dX11_through_248 (by decide) ?_
    refine z_goto (tgt := 253) dX11_through_249 (by decide) ?_
    refine z_istore dX11_through_253 (by decide) ?_
    show z_V _ _ _ _ _ _ _ _ _ [_, _, _, _, _, _, _, _] _ _
    refine z_iload_n dX11_through_255 rfl rfl ?_
    refine z_bipush (v := nI 14) dX11_through_256 (by decide) ?_
    refine z_icmp_ne (tgt := 310) dX11_through_258 (by decide) (fun _ => ?_) (fun c_ => absurd c_ (by decide +kernel))
    refine z_iload_n dX11_through_310 rfl rfl ?_
    refine z_bipush (v := nI 12) dX11_through_311 (by decide) ?_
    refine z_icmp_ne (tgt := 326) dX11_through_313 (by decide) (fun _ => ?_) (fun c_ => absurd c_ (by decide +kernel))
    refine z_iload_n dX11_through_326 rfl rfl ?_
    refine z_iconst (v := nI 3) dX11_through_327 (by decide) ?_
    refine z_bipush (v := nI 8) dX11_through_328 (by decide) ?_
    refine z_cS1 dX11_through_330 ml_X11_114 (sp_within) rfl rfl (Nat.le_of_ble_eq_true rfl) ?_
    refine z_if_eq (tgt := 372) dX11_through_333 (by decide) (fun c_ => absurd c_ (by decide +kernel)) (fun _ => ?_)
    refine z_aload_n dX11_through_336 rfl rfl ?_
    refine z_getI dX11_through_337 fl_X11_209 rfl rfl (show _ = nI (n + 1) by rw [z_up_o _ _ (Or.inr (by decide)), z_up_o _ _ (Or.inl (by decide))]; exact hsz) ?_
    refine z_iload dX11_through_340 rfl ?_
    refine z_icmp_le (tgt := 372) dX11_through_342 (by decide) (fun c_ => absurd c_ (nI_ge (by omega) (by omega))) (fun _ => ?_)
    refine z_aload_n dX11_through_345 rfl rfl ?_
    refine z_getR dX11_through_346 fl_X11_81 rfl rfl rfl ?_
    refine z_aload_n dX11_through_349 rfl rfl ?_
    refine z_getI dX11_through_350 fl_X11_209 rfl rfl (show _ = nI (n + 1) by rw [z_up_o _ _ (Or.inr (by decide)), z_up_o _ _ (Or.inl (by decide))]; exact hsz) ?_
    refine z_iconst (v := 1) dX11_through_353 (by decide) ?_
    refine z_isub dX11_through_354 (nI_pred n) ?_
    refine z_iald dX11_through_355 rfl rfl (by omega) (show _ = nI 2 by rw [z_up_o _ _ (Or.inl (by decide)), z_up_o _ _ (Or.inl (by decide))]; exact hkd) ?_
    refine z_iconst (v := nI 2) dX11_through_356 (by decide) ?_
    refine z_icmp_ne (tgt := 372) dX11_through_357 (by decide) (fun c_ => absurd (rfl) c_) (fun _ => ?_)
    refine z_bipush (v := (-3)) dX11_through_360 (by decide) ?_
    refine z_aload_n dX11_through_362 rfl rfl ?_
    refine z_getI dX11_through_363 fl_X11_209 rfl rfl (show _ = nI (n + 1) by rw [z_up_o _ _ (Or.inr (by decide)), z_up_o _ _ (Or.inl (by decide))]; exact hsz) ?_
    refine z_iconst (v := 1) dX11_through_366 (by decide) ?_
    refine z_isub dX11_through_367 (nI_pred n) ?_
    refine z_isub dX11_through_368 rfl ?_
    refine z_goto (tgt := 373) dX11_through_369 (by decide) ?_
    exact z_iret dX11_through_373 rfl rfl rfl
set_option maxRecDepth 100000 in
set_option maxHeartbeats 4000000 in
theorem sp_th7k {d : Nat} {σ : Nat → Nat → Int32} {τ : Nat → Nat → Int64} {j k n e : Nat} (hj : j < 30) (hk0 : σ 101 j = nI k) (hk : k < 40) (hn : σ 92 35 = nI n) (h40 : n < 40) (hop : σ 93 k = nI 7) (he : σ 92 44 = nI (e + 2)) (he8 : e + 2 ≤ 6) {b : Nat} (hb : σ 121 (e + 1) = nI b) (hb40 : b < 40) {a : Nat} (ha : σ 121 e = nI a) (ha40 : a < 40) (hsz : (cal (hg σ e) n 7 a b).2 92 35 = nI (n + 1)) (hkd : ¬ (cal (hg σ e) n 7 a b).2 113 n = nI 2) : z_MV M_X11_through (d + 2) 0 0 [.ref 92, .int (nI j)] (124, z_r0, σ, τ) (some (.int (0))) (124, z_r0, hg (z_up ((cal (hg σ e) n 7 a b).2) 121 e (nI (cal (hg σ e) n 7 a b).1)) (e + 1), τ) := by
  refine z_MV.of pn_X11_through (Nat.le_of_ble_eq_true rfl) (by simp [Value.category]) rfl ?_
  show z_V _ _ _ _ _ _ _ _ _ [_, _, _, _, _, _, _, _] _ _
  refine z_aload_n dX11_through_0 rfl rfl ?_
  refine z_getR dX11_through_1 fl_X11_41 rfl rfl rfl ?_
  refine z_iload_n dX11_through_4 rfl rfl ?_
  refine z_iald dX11_through_5 rfl rfl (by omega) hk0 ?_
  refine z_istore_n dX11_through_6 rfl (by decide) ?_
  show z_V _ _ _ _ _ _ _ _ _ [_, _, _, _, _, _, _, _] _ _
  refine z_aload_n dX11_through_7 rfl rfl ?_
  refine z_getR dX11_through_8 fl_X11_7 rfl rfl rfl ?_
  refine z_iload_n dX11_through_11 rfl rfl ?_
  refine z_iald dX11_through_12 rfl rfl (by omega) hop ?_
  refine z_istore_n dX11_through_13 rfl (by decide) ?_
  show z_V _ _ _ _ _ _ _ _ _ [_, _, _, _, _, _, _, _] _ _
  refine z_aload_n dX11_through_14 rfl rfl ?_
  refine z_getI dX11_through_15 fl_X11_209 rfl rfl hn ?_
  refine z_istore dX11_through_18 (by decide) ?_
  show z_V _ _ _ _ _ _ _ _ _ [_, _, _, _, _, _, _, _] _ _
  refine z_iload_n dX11_through_20 rfl rfl ?_
  refine z_cS1 dX11_through_21 ml_X11_133 (sp_rtakes (by decide)) rfl rfl (Nat.le_of_ble_eq_true rfl) ?_
  refine z_if_le (tgt := 41) dX11_through_24 (by decide) (fun c_ => absurd c_ (by decide +kernel)) (fun _ => ?_)
  refine z_aload_n dX11_through_27 rfl rfl ?_
  refine z_getR dX11_through_28 fl_X11_105 rfl rfl rfl ?_
  refine z_aload_n dX11_through_31 rfl rfl ?_
  refine z_getI dX11_through_32 fl_X11_216 rfl rfl he ?_
  refine z_iconst (v := 1) dX11_through_35 (by decide) ?_
  refine z_isub dX11_through_36 (nI_pred _) ?_
  refine z_iald dX11_through_37 rfl rfl (by omega) hb ?_
  refine z_goto (tgt := 42) dX11_through_38 (by decide) ?_
  refine z_istore dX11_through_42 (by decide) ?_
  show z_V _ _ _ _ _ _ _ _ _ [_, _, _, _, _, _, _, _] _ _
  refine z_iload_n dX11_through_44 rfl rfl ?_
  refine z_cS1 dX11_through_45 ml_X11_133 (sp_rtakes (by decide)) rfl rfl (Nat.le_of_ble_eq_true rfl) ?_
  refine z_iconst (v := 1) dX11_through_48 (by decide) ?_
  refine z_icmp_le (tgt := 66) dX11_through_49 (by decide) (fun c_ => absurd c_ (by decide +kernel)) (fun _ => ?_)
  refine z_aload_n dX11_through_52 rfl rfl ?_
  refine z_getR dX11_through_53 fl_X11_105 rfl rfl rfl ?_
  refine z_aload_n dX11_through_56 rfl rfl ?_
  refine z_getI dX11_through_57 fl_X11_216 rfl rfl he ?_
  refine z_iconst (v := nI 2) dX11_through_60 (by decide) ?_
  refine z_isub dX11_through_61 (show _ = nI e from pk_sub (Nat.le_add_left 2 e)) ?_
  refine z_iald dX11_through_62 rfl rfl (by omega) ha ?_
  refine z_goto (tgt := 67) dX11_through_63 (by decide) ?_
  refine z_istore dX11_through_67 (by decide) ?_
  show z_V _ _ _ _ _ _ _ _ _ [_, _, _, _, _, _, _, _] _ _
  refine z_aload_n dX11_through_69 rfl rfl ?_
  refine z_dup dX11_through_70 rfl ?_
  refine z_getI dX11_through_71 fl_X11_216 rfl rfl he ?_
  refine z_iload_n dX11_through_74 rfl rfl ?_
  refine z_cS1 dX11_through_75 ml_X11_133 (sp_rtakes (by decide)) rfl rfl (Nat.le_of_ble_eq_true rfl) ?_
  refine z_isub dX11_through_78 (show _ = nI e from pk_sub (Nat.le_add_left 2 e)) ?_
  refine z_putI dX11_through_79 fl_X11_216 rfl rfl (Or.inl rfl) rfl ?_
  show z_V _ _ _ _ _ _ _ _ _ _ _ (124, z_r0, hg σ e, τ)
  refine z_iload_n dX11_through_82 rfl rfl ?_
  refine z_if_ne (tgt := 108) dX11_through_83 (by decide) (fun _ => ?_) (fun c_ => absurd c_ (by decide +kernel))
  refine z_iload_n dX11_through_108 rfl rfl ?_
  refine z_iconst (v := 1) dX11_through_109 (by decide) ?_
  refine z_icmp_ne (tgt := 133) dX11_through_110 (by decide) (fun _ => ?_) (fun c_ => absurd c_ (by decide +kernel))
  refine z_iload_n dX11_through_133 rfl rfl ?_
  refine z_iconst (v := nI 2) dX11_through_134 (by decide) ?_
  refine z_icmp_ne (tgt := 151) dX11_through_135 (by decide) (fun _ => ?_) (fun c_ => absurd c_ (by decide +kernel))
  refine z_iload_n dX11_through_151 rfl rfl ?_
  refine z_iconst (v := nI 3) dX11_through_152 (by decide) ?_
  refine z_bipush (v := nI 8) dX11_through_153 (by decide) ?_
  refine z_cS1 dX11_through_155 ml_X11_114 (sp_within) rfl rfl (Nat.le_of_ble_eq_true rfl) ?_
  refine z_if_eq (tgt := 179) dX11_through_158 (by decide) (fun c_ => absurd c_ (by decide +kernel)) (fun _ => ?_)
  refine z_aload_n dX11_through_161 rfl rfl ?_
  refine z_getR dX11_through_162 fl_X11_105 rfl rfl rfl ?_
  refine z_aload_n dX11_through_165 rfl rfl ?_
  refine z_getI dX11_through_166 fl_X11_216 rfl rfl (show _ = nI e by simp [hg, z_up]) ?_
  refine z_aload_n dX11_through_169 rfl rfl ?_
  refine z_iload_n dX11_through_170 rfl rfl ?_
  refine z_iload dX11_through_171 rfl ?_
  refine z_iload dX11_through_173 rfl ?_
  refine z_cV1 dX11_through_175 ml_X11_219 (sp_calculated (show _ = nI n from hg_35.trans hn) h40 (by decide) (by decide) ha40 hb40) rfl ⟨by decide, rfl⟩ rfl rfl (Nat.le_of_ble_eq_true rfl) ?_
  refine z_iast dX11_through_178 rfl rfl (by omega) ?_
  refine z_iload_n dX11_through_179 rfl rfl ?_
  refine z_bipush (v := nI 9) dX11_through_180 (by decide) ?_
  refine z_icmp_eq (tgt := 191) dX11_through_182 (by decide) (fun c_ => absurd c_ (by decide +kernel)) (fun _ => ?_)
  refine z_iload_n dX11_through_185 rfl rfl ?_
  refine z_bipush (v := nI 11) dX11_through_186 (by decide) ?_
  refine z_icmp_ne (tgt := 226) dX11_through_188 (by decide) (fun _ => ?_) (fun c_ => absurd c_ (by decide +kernel))
  refine z_aload_n dX11_through_226 rfl rfl ?_
  refine z_dup dX11_through_227 rfl ?_
  refine z_getI dX11_through_228 fl_X11_216 rfl rfl (show _ = nI e by rw [z_up_o _ _ (Or.inl (by decide)), cal_44]; simp [hg, z_up]) ?_
  refine z_iload_n dX11_through_231 rfl rfl ?_
  refine z_cS1 dX11_through_232 ml_X11_136 (sp_rleaves (by decide)) rfl rfl (Nat.le_of_ble_eq_true rfl) ?_
  refine z_iadd dX11_through_235 (nI_add _ _) ?_
  refine z_putI dX11_through_236 fl_X11_216 rfl rfl (Or.inl rfl) rfl ?_
  refine z_aload_n dX11_through_239 rfl rfl ?_
  refine z_getR dX11_through_240 fl_X11_44 rfl rfl rfl ?_
  refine z_iload_n dX11_through_243 rfl rfl ?_
  refine z_zald dX11_through_244 rfl rfl (by omega) rfl ?_
  refine z_if_eq (tgt := 252) dX11_through_245 (by decide) (fun c245 => ?_) (fun c245 => ?_)
  · refine z_iconst (v := 1) dX11_through_252 (by decide) ?_
    refine z_istore dX11_through_253 (by decide) ?_
    show z_V _ _ _ _ _ _ _ _ _ [_, _, _, _, _, _, _, _] _ _
    refine z_iload_n dX11_through_255 rfl rfl ?_
    refine z_bipush (v := nI 14) dX11_through_256 (by decide) ?_
    refine z_icmp_ne (tgt := 310) dX11_through_258 (by decide) (fun _ => ?_) (fun c_ => absurd c_ (by decide +kernel))
    refine z_iload_n dX11_through_310 rfl rfl ?_
    refine z_bipush (v := nI 12) dX11_through_311 (by decide) ?_
    refine z_icmp_ne (tgt := 326) dX11_through_313 (by decide) (fun _ => ?_) (fun c_ => absurd c_ (by decide +kernel))
    refine z_iload_n dX11_through_326 rfl rfl ?_
    refine z_iconst (v := nI 3) dX11_through_327 (by decide) ?_
    refine z_bipush (v := nI 8) dX11_through_328 (by decide) ?_
    refine z_cS1 dX11_through_330 ml_X11_114 (sp_within) rfl rfl (Nat.le_of_ble_eq_true rfl) ?_
    refine z_if_eq (tgt := 372) dX11_through_333 (by decide) (fun c_ => absurd c_ (by decide +kernel)) (fun _ => ?_)
    refine z_aload_n dX11_through_336 rfl rfl ?_
    refine z_getI dX11_through_337 fl_X11_209 rfl rfl (show _ = nI (n + 1) by rw [z_up_o _ _ (Or.inr (by decide)), z_up_o _ _ (Or.inl (by decide))]; exact hsz) ?_
    refine z_iload dX11_through_340 rfl ?_
    refine z_icmp_le (tgt := 372) dX11_through_342 (by decide) (fun c_ => absurd c_ (nI_ge (by omega) (by omega))) (fun _ => ?_)
    refine z_aload_n dX11_through_345 rfl rfl ?_
    refine z_getR dX11_through_346 fl_X11_81 rfl rfl rfl ?_
    refine z_aload_n dX11_through_349 rfl rfl ?_
    refine z_getI dX11_through_350 fl_X11_209 rfl rfl (show _ = nI (n + 1) by rw [z_up_o _ _ (Or.inr (by decide)), z_up_o _ _ (Or.inl (by decide))]; exact hsz) ?_
    refine z_iconst (v := 1) dX11_through_353 (by decide) ?_
    refine z_isub dX11_through_354 (nI_pred n) ?_
    refine z_iald dX11_through_355 rfl rfl (by omega) (show _ = (cal (hg σ e) n 7 a b).2 113 n by rw [z_up_o _ _ (Or.inl (by decide)), z_up_o _ _ (Or.inl (by decide))]) ?_
    refine z_iconst (v := nI 2) dX11_through_356 (by decide) ?_
    refine z_icmp_ne (tgt := 372) dX11_through_357 (by decide) (fun _ => ?_) (fun c_ => absurd c_ (hkd))
    refine z_iconst (v := 0) dX11_through_372 (by decide) ?_
    exact z_iret dX11_through_373 rfl rfl rfl
  · refine z_iconst (v := nI 2) dX11_through_248 (by decide) ?_
    refine z_goto (tgt := 253) dX11_through_249 (by decide) ?_
    refine z_istore dX11_through_253 (by decide) ?_
    show z_V _ _ _ _ _ _ _ _ _ [_, _, _, _, _, _, _, _] _ _
    refine z_iload_n dX11_through_255 rfl rfl ?_
    refine z_bipush (v := nI 14) dX11_through_256 (by decide) ?_
    refine z_icmp_ne (tgt := 310) dX11_through_258 (by decide) (fun _ => ?_) (fun c_ => absurd c_ (by decide +kernel))
    refine z_iload_n dX11_through_310 rfl rfl ?_
    refine z_bipush (v := nI 12) dX11_through_311 (by decide) ?_
    refine z_icmp_ne (tgt := 326) dX11_through_313 (by decide) (fun _ => ?_) (fun c_ => absurd c_ (by decide +kernel))
    refine z_iload_n dX11_through_326 rfl rfl ?_
    refine z_iconst (v := nI 3) dX11_through_327 (by decide) ?_
    refine z_bipush (v := nI 8) dX11_through_328 (by decide) ?_
    refine z_cS1 dX11_through_330 ml_X11_114 (sp_within) rfl rfl (Nat.le_of_ble_eq_true rfl) ?_
    refine z_if_eq (tgt := 372) dX11_through_333 (by decide) (fun c_ => absurd c_ (by decide +kernel)) (fun _ => ?_)
    refine z_aload_n dX11_through_336 rfl rfl ?_
    refine z_getI dX11_through_337 fl_X11_209 rfl rfl (show _ = nI (n + 1) by rw [z_up_o _ _ (Or.inr (by decide)), z_up_o _ _ (Or.inl (by decide))]; exact hsz) ?_
    refine z_iload dX11_through_340 rfl ?_
    refine z_icmp_le (tgt := 372) dX11_through_342 (by decide) (fun c_ => absurd c_ (nI_ge (by omega) (by omega))) (fun _ => ?_)
    refine z_aload_n dX11_through_345 rfl rfl ?_
    refine z_getR dX11_through_346 fl_X11_81 rfl rfl rfl ?_
    refine z_aload_n dX11_through_349 rfl rfl ?_
    refine z_getI dX11_through_350 fl_X11_209 rfl rfl (show _ = nI (n + 1) by rw [z_up_o _ _ (Or.inr (by decide)), z_up_o _ _ (Or.inl (by decide))]; exact hsz) ?_
    refine z_iconst (v := 1) dX11_through_353 (by decide) ?_
    refine z_isub dX11_through_354 (nI_pred n) ?_
    refine z_iald dX11_through_355 rfl rfl (by omega) (show _ = (cal (hg σ e) n 7 a b).2 113 n by rw [z_up_o _ _ (Or.inl (by decide)), z_up_o _ _ (Or.inl (by decide))]) ?_
    refine z_iconst (v := nI 2) dX11_through_356 (by decide) ?_
    refine z_icmp_ne (tgt := 372) dX11_through_357 (by decide) (fun _ => ?_) (fun c_ => absurd c_ (hkd))
    refine z_iconst (v := 0) dX11_through_372 (by decide) ?_
    exact z_iret dX11_through_373 rfl rfl rfl
set_option maxRecDepth 100000 in
set_option maxHeartbeats 4000000 in
theorem sp_th8s {d : Nat} {σ : Nat → Nat → Int32} {τ : Nat → Nat → Int64} {j k n e : Nat} (hj : j < 30) (hk0 : σ 101 j = nI k) (hk : k < 40) (hn : σ 92 35 = nI n) (h40 : n < 40) (hop : σ 93 k = nI 8) (he : σ 92 44 = nI (e + 2)) (he8 : e + 2 ≤ 6) {b : Nat} (hb : σ 121 (e + 1) = nI b) (hb40 : b < 40) {a : Nat} (ha : σ 121 e = nI a) (ha40 : a < 40) (hsz : (cal (hg σ e) n 8 a b).2 92 35 = nI n) : z_MV M_X11_through (d + 2) 0 0 [.ref 92, .int (nI j)] (124, z_r0, σ, τ) (some (.int (0))) (124, z_r0, hg (z_up ((cal (hg σ e) n 8 a b).2) 121 e (nI (cal (hg σ e) n 8 a b).1)) (e + 1), τ) := by
  refine z_MV.of pn_X11_through (Nat.le_of_ble_eq_true rfl) (by simp [Value.category]) rfl ?_
  show z_V _ _ _ _ _ _ _ _ _ [_, _, _, _, _, _, _, _] _ _
  refine z_aload_n dX11_through_0 rfl rfl ?_
  refine z_getR dX11_through_1 fl_X11_41 rfl rfl rfl ?_
  refine z_iload_n dX11_through_4 rfl rfl ?_
  refine z_iald dX11_through_5 rfl rfl (by omega) hk0 ?_
  refine z_istore_n dX11_through_6 rfl (by decide) ?_
  show z_V _ _ _ _ _ _ _ _ _ [_, _, _, _, _, _, _, _] _ _
  refine z_aload_n dX11_through_7 rfl rfl ?_
  refine z_getR dX11_through_8 fl_X11_7 rfl rfl rfl ?_
  refine z_iload_n dX11_through_11 rfl rfl ?_
  refine z_iald dX11_through_12 rfl rfl (by omega) hop ?_
  refine z_istore_n dX11_through_13 rfl (by decide) ?_
  show z_V _ _ _ _ _ _ _ _ _ [_, _, _, _, _, _, _, _] _ _
  refine z_aload_n dX11_through_14 rfl rfl ?_
  refine z_getI dX11_through_15 fl_X11_209 rfl rfl hn ?_
  refine z_istore dX11_through_18 (by decide) ?_
  show z_V _ _ _ _ _ _ _ _ _ [_, _, _, _, _, _, _, _] _ _
  refine z_iload_n dX11_through_20 rfl rfl ?_
  refine z_cS1 dX11_through_21 ml_X11_133 (sp_rtakes (by decide)) rfl rfl (Nat.le_of_ble_eq_true rfl) ?_
  refine z_if_le (tgt := 41) dX11_through_24 (by decide) (fun c_ => absurd c_ (by decide +kernel)) (fun _ => ?_)
  refine z_aload_n dX11_through_27 rfl rfl ?_
  refine z_getR dX11_through_28 fl_X11_105 rfl rfl rfl ?_
  refine z_aload_n dX11_through_31 rfl rfl ?_
  refine z_getI dX11_through_32 fl_X11_216 rfl rfl he ?_
  refine z_iconst (v := 1) dX11_through_35 (by decide) ?_
  refine z_isub dX11_through_36 (nI_pred _) ?_
  refine z_iald dX11_through_37 rfl rfl (by omega) hb ?_
  refine z_goto (tgt := 42) dX11_through_38 (by decide) ?_
  refine z_istore dX11_through_42 (by decide) ?_
  show z_V _ _ _ _ _ _ _ _ _ [_, _, _, _, _, _, _, _] _ _
  refine z_iload_n dX11_through_44 rfl rfl ?_
  refine z_cS1 dX11_through_45 ml_X11_133 (sp_rtakes (by decide)) rfl rfl (Nat.le_of_ble_eq_true rfl) ?_
  refine z_iconst (v := 1) dX11_through_48 (by decide) ?_
  refine z_icmp_le (tgt := 66) dX11_through_49 (by decide) (fun c_ => absurd c_ (by decide +kernel)) (fun _ => ?_)
  refine z_aload_n dX11_through_52 rfl rfl ?_
  refine z_getR dX11_through_53 fl_X11_105 rfl rfl rfl ?_
  refine z_aload_n dX11_through_56 rfl rfl ?_
  refine z_getI dX11_through_57 fl_X11_216 rfl rfl he ?_
  refine z_iconst (v := nI 2) dX11_through_60 (by decide) ?_
  refine z_isub dX11_through_61 (show _ = nI e from pk_sub (Nat.le_add_left 2 e)) ?_
  refine z_iald dX11_through_62 rfl rfl (by omega) ha ?_
  refine z_goto (tgt := 67) dX11_through_63 (by decide) ?_
  refine z_istore dX11_through_67 (by decide) ?_
  show z_V _ _ _ _ _ _ _ _ _ [_, _, _, _, _, _, _, _] _ _
  refine z_aload_n dX11_through_69 rfl rfl ?_
  refine z_dup dX11_through_70 rfl ?_
  refine z_getI dX11_through_71 fl_X11_216 rfl rfl he ?_
  refine z_iload_n dX11_through_74 rfl rfl ?_
  refine z_cS1 dX11_through_75 ml_X11_133 (sp_rtakes (by decide)) rfl rfl (Nat.le_of_ble_eq_true rfl) ?_
  refine z_isub dX11_through_78 (show _ = nI e from pk_sub (Nat.le_add_left 2 e)) ?_
  refine z_putI dX11_through_79 fl_X11_216 rfl rfl (Or.inl rfl) rfl ?_
  show z_V _ _ _ _ _ _ _ _ _ _ _ (124, z_r0, hg σ e, τ)
  refine z_iload_n dX11_through_82 rfl rfl ?_
  refine z_if_ne (tgt := 108) dX11_through_83 (by decide) (fun _ => ?_) (fun c_ => absurd c_ (by decide +kernel))
  refine z_iload_n dX11_through_108 rfl rfl ?_
  refine z_iconst (v := 1) dX11_through_109 (by decide) ?_
  refine z_icmp_ne (tgt := 133) dX11_through_110 (by decide) (fun _ => ?_) (fun c_ => absurd c_ (by decide +kernel))
  refine z_iload_n dX11_through_133 rfl rfl ?_
  refine z_iconst (v := nI 2) dX11_through_134 (by decide) ?_
  refine z_icmp_ne (tgt := 151) dX11_through_135 (by decide) (fun _ => ?_) (fun c_ => absurd c_ (by decide +kernel))
  refine z_iload_n dX11_through_151 rfl rfl ?_
  refine z_iconst (v := nI 3) dX11_through_152 (by decide) ?_
  refine z_bipush (v := nI 8) dX11_through_153 (by decide) ?_
  refine z_cS1 dX11_through_155 ml_X11_114 (sp_within) rfl rfl (Nat.le_of_ble_eq_true rfl) ?_
  refine z_if_eq (tgt := 179) dX11_through_158 (by decide) (fun c_ => absurd c_ (by decide +kernel)) (fun _ => ?_)
  refine z_aload_n dX11_through_161 rfl rfl ?_
  refine z_getR dX11_through_162 fl_X11_105 rfl rfl rfl ?_
  refine z_aload_n dX11_through_165 rfl rfl ?_
  refine z_getI dX11_through_166 fl_X11_216 rfl rfl (show _ = nI e by simp [hg, z_up]) ?_
  refine z_aload_n dX11_through_169 rfl rfl ?_
  refine z_iload_n dX11_through_170 rfl rfl ?_
  refine z_iload dX11_through_171 rfl ?_
  refine z_iload dX11_through_173 rfl ?_
  refine z_cV1 dX11_through_175 ml_X11_219 (sp_calculated (show _ = nI n from hg_35.trans hn) h40 (by decide) (by decide) ha40 hb40) rfl ⟨by decide, rfl⟩ rfl rfl (Nat.le_of_ble_eq_true rfl) ?_
  refine z_iast dX11_through_178 rfl rfl (by omega) ?_
  refine z_iload_n dX11_through_179 rfl rfl ?_
  refine z_bipush (v := nI 9) dX11_through_180 (by decide) ?_
  refine z_icmp_eq (tgt := 191) dX11_through_182 (by decide) (fun c_ => absurd c_ (by decide +kernel)) (fun _ => ?_)
  refine z_iload_n dX11_through_185 rfl rfl ?_
  refine z_bipush (v := nI 11) dX11_through_186 (by decide) ?_
  refine z_icmp_ne (tgt := 226) dX11_through_188 (by decide) (fun _ => ?_) (fun c_ => absurd c_ (by decide +kernel))
  refine z_aload_n dX11_through_226 rfl rfl ?_
  refine z_dup dX11_through_227 rfl ?_
  refine z_getI dX11_through_228 fl_X11_216 rfl rfl (show _ = nI e by rw [z_up_o _ _ (Or.inl (by decide)), cal_44]; simp [hg, z_up]) ?_
  refine z_iload_n dX11_through_231 rfl rfl ?_
  refine z_cS1 dX11_through_232 ml_X11_136 (sp_rleaves (by decide)) rfl rfl (Nat.le_of_ble_eq_true rfl) ?_
  refine z_iadd dX11_through_235 (nI_add _ _) ?_
  refine z_putI dX11_through_236 fl_X11_216 rfl rfl (Or.inl rfl) rfl ?_
  refine z_aload_n dX11_through_239 rfl rfl ?_
  refine z_getR dX11_through_240 fl_X11_44 rfl rfl rfl ?_
  refine z_iload_n dX11_through_243 rfl rfl ?_
  refine z_zald dX11_through_244 rfl rfl (by omega) rfl ?_
  refine z_if_eq (tgt := 252) dX11_through_245 (by decide) (fun c245 => ?_) (fun c245 => ?_)
  · refine z_iconst (v := 1) dX11_through_252 (by decide) ?_
    refine z_istore dX11_through_253 (by decide) ?_
    show z_V _ _ _ _ _ _ _ _ _ [_, _, _, _, _, _, _, _] _ _
    refine z_iload_n dX11_through_255 rfl rfl ?_
    refine z_bipush (v := nI 14) dX11_through_256 (by decide) ?_
    refine z_icmp_ne (tgt := 310) dX11_through_258 (by decide) (fun _ => ?_) (fun c_ => absurd c_ (by decide +kernel))
    refine z_iload_n dX11_through_310 rfl rfl ?_
    refine z_bipush (v := nI 12) dX11_through_311 (by decide) ?_
    refine z_icmp_ne (tgt := 326) dX11_through_313 (by decide) (fun _ => ?_) (fun c_ => absurd c_ (by decide +kernel))
    refine z_iload_n dX11_through_326 rfl rfl ?_
    refine z_iconst (v := nI 3) dX11_through_327 (by decide) ?_
    refine z_bipush (v := nI 8) dX11_through_328 (by decide) ?_
    refine z_cS1 dX11_through_330 ml_X11_114 (sp_within) rfl rfl (Nat.le_of_ble_eq_true rfl) ?_
    refine z_if_eq (tgt := 372) dX11_through_333 (by decide) (fun c_ => absurd c_ (by decide +kernel)) (fun _ => ?_)
    refine z_aload_n dX11_through_336 rfl rfl ?_
    refine z_getI dX11_through_337 fl_X11_209 rfl rfl (show _ = nI n by rw [z_up_o _ _ (Or.inr (by decide)), z_up_o _ _ (Or.inl (by decide))]; exact hsz) ?_
    refine z_iload dX11_through_340 rfl ?_
    refine z_icmp_le (tgt := 372) dX11_through_342 (by decide) (fun _ => ?_) (fun c_ => absurd (Int32.le_refl _) c_)
    refine z_iconst (v := 0) dX11_through_372 (by decide) ?_
    exact z_iret dX11_through_373 rfl rfl rfl
  · refine z_iconst (v := nI 2) dX11_through_248 (by decide) ?_
    refine z_goto (tgt := 253) dX11_through_249 (by decide) ?_
    refine z_istore dX11_through_253 (by decide) ?_
    show z_V _ _ _ _ _ _ _ _ _ [_, _, _, _, _, _, _, _] _ _
    refine z_iload_n dX11_through_255 rfl rfl ?_
    refine z_bipush (v := nI 14) dX11_through_256 (by decide) ?_
    refine z_icmp_ne (tgt := 310) dX11_through_258 (by decide) (fun _ => ?_) (fun c_ => absurd c_ (by decide +kernel))
    refine z_iload_n dX11_through_310 rfl rfl ?_
    refine z_bipush (v := nI 12) dX11_through_311 (by decide) ?_
    refine z_icmp_ne (tgt := 326) dX11_through_313 (by decide) (fun _ => ?_) (fun c_ => absurd c_ (by decide +kernel))
    refine z_iload_n dX11_through_326 rfl rfl ?_
    refine z_iconst (v := nI 3) dX11_through_327 (by decide) ?_
    refine z_bipush (v := nI 8) dX11_through_328 (by decide) ?_
    refine z_cS1 dX11_through_330 ml_X11_114 (sp_within) rfl rfl (Nat.le_of_ble_eq_true rfl) ?_
    refine z_if_eq (tgt := 372) dX11_through_333 (by decide) (fun c_ => absurd c_ (by decide +kernel)) (fun _ => ?_)
    refine z_aload_n dX11_through_336 rfl rfl ?_
    refine z_getI dX11_through_337 fl_X11_209 rfl rfl (show _ = nI n by rw [z_up_o _ _ (Or.inr (by decide)), z_up_o _ _ (Or.inl (by decide))]; exact hsz) ?_
    refine z_iload dX11_through_340 rfl ?_
    refine z_icmp_le (tgt := 372) dX11_through_342 (by decide) (fun _ => ?_) (fun c_ => absurd (Int32.le_refl _) c_)
    refine z_iconst (v := 0) dX11_through_372 (by decide) ?_
    exact z_iret dX11_through_373 rfl rfl rfl
set_option maxRecDepth 100000 in
set_option maxHeartbeats 4000000 in
theorem sp_th8n {d : Nat} {σ : Nat → Nat → Int32} {τ : Nat → Nat → Int64} {j k n e : Nat} (hj : j < 30) (hk0 : σ 101 j = nI k) (hk : k < 40) (hn : σ 92 35 = nI n) (h40 : n < 40) (hop : σ 93 k = nI 8) (he : σ 92 44 = nI (e + 2)) (he8 : e + 2 ≤ 6) {b : Nat} (hb : σ 121 (e + 1) = nI b) (hb40 : b < 40) {a : Nat} (ha : σ 121 e = nI a) (ha40 : a < 40) (hsz : (cal (hg σ e) n 8 a b).2 92 35 = nI (n + 1)) (hkd : (cal (hg σ e) n 8 a b).2 113 n = nI 2) : z_MV M_X11_through (d + 2) 0 0 [.ref 92, .int (nI j)] (124, z_r0, σ, τ) (some (.int (-3 - nI n))) (124, z_r0, hg (z_up ((cal (hg σ e) n 8 a b).2) 121 e (nI (cal (hg σ e) n 8 a b).1)) (e + 1), τ) := by
  refine z_MV.of pn_X11_through (Nat.le_of_ble_eq_true rfl) (by simp [Value.category]) rfl ?_
  show z_V _ _ _ _ _ _ _ _ _ [_, _, _, _, _, _, _, _] _ _
  refine z_aload_n dX11_through_0 rfl rfl ?_
  refine z_getR dX11_through_1 fl_X11_41 rfl rfl rfl ?_
  refine z_iload_n dX11_through_4 rfl rfl ?_
  refine z_iald dX11_through_5 rfl rfl (by omega) hk0 ?_
  refine z_istore_n dX11_through_6 rfl (by decide) ?_
  show z_V _ _ _ _ _ _ _ _ _ [_, _, _, _, _, _, _, _] _ _
  refine z_aload_n dX11_through_7 rfl rfl ?_
  refine z_getR dX11_through_8 fl_X11_7 rfl rfl rfl ?_
  refine z_iload_n dX11_through_11 rfl rfl ?_
  refine z_iald dX11_through_12 rfl rfl (by omega) hop ?_
  refine z_istore_n dX11_through_13 rfl (by decide) ?_
  show z_V _ _ _ _ _ _ _ _ _ [_, _, _, _, _, _, _, _] _ _
  refine z_aload_n dX11_through_14 rfl rfl ?_
  refine z_getI dX11_through_15 fl_X11_209 rfl rfl hn ?_
  refine z_istore dX11_through_18 (by decide) ?_
  show z_V _ _ _ _ _ _ _ _ _ [_, _, _, _, _, _, _, _] _ _
  refine z_iload_n dX11_through_20 rfl rfl ?_
  refine z_cS1 dX11_through_21 ml_X11_133 (sp_rtakes (by decide)) rfl rfl (Nat.le_of_ble_eq_true rfl) ?_
  refine z_if_le (tgt := 41) dX11_through_24 (by decide) (fun c_ => absurd c_ (by decide +kernel)) (fun _ => ?_)
  refine z_aload_n dX11_through_27 rfl rfl ?_
  refine z_getR dX11_through_28 fl_X11_105 rfl rfl rfl ?_
  refine z_aload_n dX11_through_31 rfl rfl ?_
  refine z_getI dX11_through_32 fl_X11_216 rfl rfl he ?_
  refine z_iconst (v := 1) dX11_through_35 (by decide) ?_
  refine z_isub dX11_through_36 (nI_pred _) ?_
  refine z_iald dX11_through_37 rfl rfl (by omega) hb ?_
  refine z_goto (tgt := 42) dX11_through_38 (by decide) ?_
  refine z_istore dX11_through_42 (by decide) ?_
  show z_V _ _ _ _ _ _ _ _ _ [_, _, _, _, _, _, _, _] _ _
  refine z_iload_n dX11_through_44 rfl rfl ?_
  refine z_cS1 dX11_through_45 ml_X11_133 (sp_rtakes (by decide)) rfl rfl (Nat.le_of_ble_eq_true rfl) ?_
  refine z_iconst (v := 1) dX11_through_48 (by decide) ?_
  refine z_icmp_le (tgt := 66) dX11_through_49 (by decide) (fun c_ => absurd c_ (by decide +kernel)) (fun _ => ?_)
  refine z_aload_n dX11_through_52 rfl rfl ?_
  refine z_getR dX11_through_53 fl_X11_105 rfl rfl rfl ?_
  refine z_aload_n dX11_through_56 rfl rfl ?_
  refine z_getI dX11_through_57 fl_X11_216 rfl rfl he ?_
  refine z_iconst (v := nI 2) dX11_through_60 (by decide) ?_
  refine z_isub dX11_through_61 (show _ = nI e from pk_sub (Nat.le_add_left 2 e)) ?_
  refine z_iald dX11_through_62 rfl rfl (by omega) ha ?_
  refine z_goto (tgt := 67) dX11_through_63 (by decide) ?_
  refine z_istore dX11_through_67 (by decide) ?_
  show z_V _ _ _ _ _ _ _ _ _ [_, _, _, _, _, _, _, _] _ _
  refine z_aload_n dX11_through_69 rfl rfl ?_
  refine z_dup dX11_through_70 rfl ?_
  refine z_getI dX11_through_71 fl_X11_216 rfl rfl he ?_
  refine z_iload_n dX11_through_74 rfl rfl ?_
  refine z_cS1 dX11_through_75 ml_X11_133 (sp_rtakes (by decide)) rfl rfl (Nat.le_of_ble_eq_true rfl) ?_
  refine z_isub dX11_through_78 (show _ = nI e from pk_sub (Nat.le_add_left 2 e)) ?_
  refine z_putI dX11_through_79 fl_X11_216 rfl rfl (Or.inl rfl) rfl ?_
  show z_V _ _ _ _ _ _ _ _ _ _ _ (124, z_r0, hg σ e, τ)
  refine z_iload_n dX11_through_82 rfl rfl ?_
  refine z_if_ne (tgt := 108) dX11_through_83 (by decide) (fun _ => ?_) (fun c_ => absurd c_ (by decide +kernel))
  refine z_iload_n dX11_through_108 rfl rfl ?_
  refine z_iconst (v := 1) dX11_through_109 (by decide) ?_
  refine z_icmp_ne (tgt := 133) dX11_through_110 (by decide) (fun _ => ?_) (fun c_ => absurd c_ (by decide +kernel))
  refine z_iload_n dX11_through_133 rfl rfl ?_
  refine z_iconst (v := nI 2) dX11_through_134 (by decide) ?_
  refine z_icmp_ne (tgt := 151) dX11_through_135 (by decide) (fun _ => ?_) (fun c_ => absurd c_ (by decide +kernel))
  refine z_iload_n dX11_through_151 rfl rfl ?_
  refine z_iconst (v := nI 3) dX11_through_152 (by decide) ?_
  refine z_bipush (v := nI 8) dX11_through_153 (by decide) ?_
  refine z_cS1 dX11_through_155 ml_X11_114 (sp_within) rfl rfl (Nat.le_of_ble_eq_true rfl) ?_
  refine z_if_eq (tgt := 179) dX11_through_158 (by decide) (fun c_ => absurd c_ (by decide +kernel)) (fun _ => ?_)
  refine z_aload_n dX11_through_161 rfl rfl ?_
  refine z_getR dX11_through_162 fl_X11_105 rfl rfl rfl ?_
  refine z_aload_n dX11_through_165 rfl rfl ?_
  refine z_getI dX11_through_166 fl_X11_216 rfl rfl (show _ = nI e by simp [hg, z_up]) ?_
  refine z_aload_n dX11_through_169 rfl rfl ?_
  refine z_iload_n dX11_through_170 rfl rfl ?_
  refine z_iload dX11_through_171 rfl ?_
  refine z_iload dX11_through_173 rfl ?_
  refine z_cV1 dX11_through_175 ml_X11_219 (sp_calculated (show _ = nI n from hg_35.trans hn) h40 (by decide) (by decide) ha40 hb40) rfl ⟨by decide, rfl⟩ rfl rfl (Nat.le_of_ble_eq_true rfl) ?_
  refine z_iast dX11_through_178 rfl rfl (by omega) ?_
  refine z_iload_n dX11_through_179 rfl rfl ?_
  refine z_bipush (v := nI 9) dX11_through_180 (by decide) ?_
  refine z_icmp_eq (tgt := 191) dX11_through_182 (by decide) (fun c_ => absurd c_ (by decide +kernel)) (fun _ => ?_)
  refine z_iload_n dX11_through_185 rfl rfl ?_
  refine z_bipush (v := nI 11) dX11_through_186 (by decide) ?_
  refine z_icmp_ne (tgt := 226) dX11_through_188 (by decide) (fun _ => ?_) (fun c_ => absurd c_ (by decide +kernel))
  refine z_aload_n dX11_through_226 rfl rfl ?_
  refine z_dup dX11_through_227 rfl ?_
  refine z_getI dX11_through_228 fl_X11_216 rfl rfl (show _ = nI e by rw [z_up_o _ _ (Or.inl (by decide)), cal_44]; simp [hg, z_up]) ?_
  refine z_iload_n dX11_through_231 rfl rfl ?_
  refine z_cS1 dX11_through_232 ml_X11_136 (sp_rleaves (by decide)) rfl rfl (Nat.le_of_ble_eq_true rfl) ?_
  refine z_iadd dX11_through_235 (nI_add _ _) ?_
  refine z_putI dX11_through_236 fl_X11_216 rfl rfl (Or.inl rfl) rfl ?_
  refine z_aload_n dX11_through_239 rfl rfl ?_
  refine z_getR dX11_through_240 fl_X11_44 rfl rfl rfl ?_
  refine z_iload_n dX11_through_243 rfl rfl ?_
  refine z_zald dX11_through_244 rfl rfl (by omega) rfl ?_
  refine z_if_eq (tgt := 252) dX11_through_245 (by decide) (fun c245 => ?_) (fun c245 => ?_)
  · refine z_iconst (v := 1) dX11_through_252 (by decide) ?_
    refine z_istore dX11_through_253 (by decide) ?_
    show z_V _ _ _ _ _ _ _ _ _ [_, _, _, _, _, _, _, _] _ _
    refine z_iload_n dX11_through_255 rfl rfl ?_
    refine z_bipush (v := nI 14) dX11_through_256 (by decide) ?_
    refine z_icmp_ne (tgt := 310) dX11_through_258 (by decide) (fun _ => ?_) (fun c_ => absurd c_ (by decide +kernel))
    refine z_iload_n dX11_through_310 rfl rfl ?_
    refine z_bipush (v := nI 12) dX11_through_311 (by decide) ?_
    refine z_icmp_ne (tgt := 326) dX11_through_313 (by decide) (fun _ => ?_) (fun c_ => absurd c_ (by decide +kernel))
    refine z_iload_n dX11_through_326 rfl rfl ?_
    refine z_iconst (v := nI 3) dX11_through_327 (by decide) ?_
    refine z_bipush (v := nI 8) dX11_through_328 (by decide) ?_
    refine z_cS1 dX11_through_330 ml_X11_114 (sp_within) rfl rfl (Nat.le_of_ble_eq_true rfl) ?_
    refine z_if_eq (tgt := 372) dX11_through_333 (by decide) (fun c_ => absurd c_ (by decide +kernel)) (fun _ => ?_)
    refine z_aload_n dX11_through_336 rfl rfl ?_
    refine z_getI dX11_through_337 fl_X11_209 rfl rfl (show _ = nI (n + 1) by rw [z_up_o _ _ (Or.inr (by decide)), z_up_o _ _ (Or.inl (by decide))]; exact hsz) ?_
    refine z_iload dX11_through_340 rfl ?_
    refine z_icmp_le (tgt := 372) dX11_through_342 (by decide) (fun c_ => absurd c_ (nI_ge (by omega) (by omega))) (fun _ => ?_)
    refine z_aload_n dX11_through_345 rfl rfl ?_
    refine z_getR dX11_through_346 fl_X11_81 rfl rfl rfl ?_
    refine z_aload_n dX11_through_349 rfl rfl ?_
    refine z_getI dX11_through_350 fl_X11_209 rfl rfl (show _ = nI (n + 1) by rw [z_up_o _ _ (Or.inr (by decide)), z_up_o _ _ (Or.inl (by decide))]; exact hsz) ?_
    refine z_iconst (v := 1) dX11_through_353 (by decide) ?_
    refine z_isub dX11_through_354 (nI_pred n) ?_
    refine z_iald dX11_through_355 rfl rfl (by omega) (show _ = nI 2 by rw [z_up_o _ _ (Or.inl (by decide)), z_up_o _ _ (Or.inl (by decide))]; exact hkd) ?_
    refine z_iconst (v := nI 2) dX11_through_356 (by decide) ?_
    refine z_icmp_ne (tgt := 372) dX11_through_357 (by decide) (fun c_ => absurd (rfl) c_) (fun _ => ?_)
    refine z_bipush (v := (-3)) dX11_through_360 (by decide) ?_
    refine z_aload_n dX11_through_362 rfl rfl ?_
    refine z_getI dX11_through_363 fl_X11_209 rfl rfl (show _ = nI (n + 1) by rw [z_up_o _ _ (Or.inr (by decide)), z_up_o _ _ (Or.inl (by decide))]; exact hsz) ?_
    refine z_iconst (v := 1) dX11_through_366 (by decide) ?_
    refine z_isub dX11_through_367 (nI_pred n) ?_
    refine z_isub dX11_through_368 rfl ?_
    refine z_goto (tgt := 373) dX11_through_369 (by decide) ?_
    exact z_iret dX11_through_373 rfl rfl rfl
  · refine z_iconst (v := nI 2) dX11_through_248 (by decide) ?_
    refine z_goto (tgt := 253) dX11_through_249 (by decide) ?_
    refine z_istore dX11_through_253 (by decide) ?_
    show z_V _ _ _ _ _ _ _ _ _ [_, _, _, _, _, _, _, _] _ _
    refine z_iload_n dX11_through_255 rfl rfl ?_
    refine z_bipush (v := nI 14) dX11_through_256 (by decide) ?_
    refine z_icmp_ne (tgt := 310) dX11_through_258 (by decide) (fun _ => ?_) (fun c_ => absurd c_ (by decide +kernel))
    refine z_iload_n dX11_through_310 rfl rfl ?_
    refine z_bipush (v := nI 12) dX11_through_311 (by decide) ?_
    refine z_icmp_ne (tgt := 326) dX11_through_313 (by decide) (fun _ => ?_) (fun c_ => absurd c_ (by decide +kernel))
    refine z_iload_n dX11_through_326 rfl rfl ?_
    refine z_iconst (v := nI 3) dX11_through_327 (by decide) ?_
    refine z_bipush (v := nI 8) dX11_through_328 (by decide) ?_
    refine z_cS1 dX11_through_330 ml_X11_114 (sp_within) rfl rfl (Nat.le_of_ble_eq_true rfl) ?_
    refine z_if_eq (tgt := 372) dX11_through_333 (by decide) (fun c_ => absurd c_ (by decide +kernel)) (fun _ => ?_)
    refine z_aload_n dX11_through_336 rfl rfl ?_
    refine z_getI dX11_through_337 fl_X11_209 rfl rfl (show _ = nI (n + 1) by rw [z_up_o _ _ (Or.inr (by decide)), z_up_o _ _ (Or.inl (by decide))]; exact hsz) ?_
    refine z_iload dX11_through_340 rfl ?_
    refine z_icmp_le (tgt := 372) dX11_through_342 (by decide) (fun c_ => absurd c_ (nI_ge (by omega) (by omega))) (fun _ => ?_)
    refine z_aload_n dX11_through_345 rfl rfl ?_
    refine z_getR dX11_through_346 fl_X11_81 rfl rfl rfl ?_
    refine z_aload_n dX11_through_349 rfl rfl ?_
    refine z_getI dX11_through_350 fl_X11_209 rfl rfl (show _ = nI (n + 1) by rw [z_up_o _ _ (Or.inr (by decide)), z_up_o _ _ (Or.inl (by decide))]; exact hsz) ?_
    refine z_iconst (v := 1) dX11_through_353 (by decide) ?_
    refine z_isub dX11_through_354 (nI_pred n) ?_
    refine z_iald dX11_through_355 rfl rfl (by omega) (show _ = nI 2 by rw [z_up_o _ _ (Or.inl (by decide)), z_up_o _ _ (Or.inl (by decide))]; exact hkd) ?_
    refine z_iconst (v := nI 2) dX11_through_356 (by decide) ?_
    refine z_icmp_ne (tgt := 372) dX11_through_357 (by decide) (fun c_ => absurd (rfl) c_) (fun _ => ?_)
    refine z_bipush (v := (-3)) dX11_through_360 (by decide) ?_
    refine z_aload_n dX11_through_362 rfl rfl ?_
    refine z_getI dX11_through_363 fl_X11_209 rfl rfl (show _ = nI (n + 1) by rw [z_up_o _ _ (Or.inr (by decide)), z_up_o _ _ (Or.inl (by decide))]; exact hsz) ?_
    refine z_iconst (v := 1) dX11_through_366 (by decide) ?_
    refine z_isub dX11_through_367 (nI_pred n) ?_
    refine z_isub dX11_through_368 rfl ?_
    refine z_goto (tgt := 373) dX11_through_369 (by decide) ?_
    exact z_iret dX11_through_373 rfl rfl rfl
set_option maxRecDepth 100000 in
set_option maxHeartbeats 4000000 in
theorem sp_th8k {d : Nat} {σ : Nat → Nat → Int32} {τ : Nat → Nat → Int64} {j k n e : Nat} (hj : j < 30) (hk0 : σ 101 j = nI k) (hk : k < 40) (hn : σ 92 35 = nI n) (h40 : n < 40) (hop : σ 93 k = nI 8) (he : σ 92 44 = nI (e + 2)) (he8 : e + 2 ≤ 6) {b : Nat} (hb : σ 121 (e + 1) = nI b) (hb40 : b < 40) {a : Nat} (ha : σ 121 e = nI a) (ha40 : a < 40) (hsz : (cal (hg σ e) n 8 a b).2 92 35 = nI (n + 1)) (hkd : ¬ (cal (hg σ e) n 8 a b).2 113 n = nI 2) : z_MV M_X11_through (d + 2) 0 0 [.ref 92, .int (nI j)] (124, z_r0, σ, τ) (some (.int (0))) (124, z_r0, hg (z_up ((cal (hg σ e) n 8 a b).2) 121 e (nI (cal (hg σ e) n 8 a b).1)) (e + 1), τ) := by
  refine z_MV.of pn_X11_through (Nat.le_of_ble_eq_true rfl) (by simp [Value.category]) rfl ?_
  show z_V _ _ _ _ _ _ _ _ _ [_, _, _, _, _, _, _, _] _ _
  refine z_aload_n dX11_through_0 rfl rfl ?_
  refine z_getR dX11_through_1 fl_X11_41 rfl rfl rfl ?_
  refine z_iload_n dX11_through_4 rfl rfl ?_
  refine z_iald dX11_through_5 rfl rfl (by omega) hk0 ?_
  refine z_istore_n dX11_through_6 rfl (by decide) ?_
  show z_V _ _ _ _ _ _ _ _ _ [_, _, _, _, _, _, _, _] _ _
  refine z_aload_n dX11_through_7 rfl rfl ?_
  refine z_getR dX11_through_8 fl_X11_7 rfl rfl rfl ?_
  refine z_iload_n dX11_through_11 rfl rfl ?_
  refine z_iald dX11_through_12 rfl rfl (by omega) hop ?_
  refine z_istore_n dX11_through_13 rfl (by decide) ?_
  show z_V _ _ _ _ _ _ _ _ _ [_, _, _, _, _, _, _, _] _ _
  refine z_aload_n dX11_through_14 rfl rfl ?_
  refine z_getI dX11_through_15 fl_X11_209 rfl rfl hn ?_
  refine z_istore dX11_through_18 (by decide) ?_
  show z_V _ _ _ _ _ _ _ _ _ [_, _, _, _, _, _, _, _] _ _
  refine z_iload_n dX11_through_20 rfl rfl ?_
  refine z_cS1 dX11_through_21 ml_X11_133 (sp_rtakes (by decide)) rfl rfl (Nat.le_of_ble_eq_true rfl) ?_
  refine z_if_le (tgt := 41) dX11_through_24 (by decide) (fun c_ => absurd c_ (by decide +kernel)) (fun _ => ?_)
  refine z_aload_n dX11_through_27 rfl rfl ?_
  refine z_getR dX11_through_28 fl_X11_105 rfl rfl rfl ?_
  refine z_aload_n dX11_through_31 rfl rfl ?_
  refine z_getI dX11_through_32 fl_X11_216 rfl rfl he ?_
  refine z_iconst (v := 1) dX11_through_35 (by decide) ?_
  refine z_isub dX11_through_36 (nI_pred _) ?_
  refine z_iald dX11_through_37 rfl rfl (by omega) hb ?_
  refine z_goto (tgt := 42) dX11_through_38 (by decide) ?_
  refine z_istore dX11_through_42 (by decide) ?_
  show z_V _ _ _ _ _ _ _ _ _ [_, _, _, _, _, _, _, _] _ _
  refine z_iload_n dX11_through_44 rfl rfl ?_
  refine z_cS1 dX11_through_45 ml_X11_133 (sp_rtakes (by decide)) rfl rfl (Nat.le_of_ble_eq_true rfl) ?_
  refine z_iconst (v := 1) dX11_through_48 (by decide) ?_
  refine z_icmp_le (tgt := 66) dX11_through_49 (by decide) (fun c_ => absurd c_ (by decide +kernel)) (fun _ => ?_)
  refine z_aload_n dX11_through_52 rfl rfl ?_
  refine z_getR dX11_through_53 fl_X11_105 rfl rfl rfl ?_
  refine z_aload_n dX11_through_56 rfl rfl ?_
  refine z_getI dX11_through_57 fl_X11_216 rfl rfl he ?_
  refine z_iconst (v := nI 2) dX11_through_60 (by decide) ?_
  refine z_isub dX11_through_61 (show _ = nI e from pk_sub (Nat.le_add_left 2 e)) ?_
  refine z_iald dX11_through_62 rfl rfl (by omega) ha ?_
  refine z_goto (tgt := 67) dX11_through_63 (by decide) ?_
  refine z_istore dX11_through_67 (by decide) ?_
  show z_V _ _ _ _ _ _ _ _ _ [_, _, _, _, _, _, _, _] _ _
  refine z_aload_n dX11_through_69 rfl rfl ?_
  refine z_dup dX11_through_70 rfl ?_
  refine z_getI dX11_through_71 fl_X11_216 rfl rfl he ?_
  refine z_iload_n dX11_through_74 rfl rfl ?_
  refine z_cS1 dX11_through_75 ml_X11_133 (sp_rtakes (by decide)) rfl rfl (Nat.le_of_ble_eq_true rfl) ?_
  refine z_isub dX11_through_78 (show _ = nI e from pk_sub (Nat.le_add_left 2 e)) ?_
  refine z_putI dX11_through_79 fl_X11_216 rfl rfl (Or.inl rfl) rfl ?_
  show z_V _ _ _ _ _ _ _ _ _ _ _ (124, z_r0, hg σ e, τ)
  refine z_iload_n dX11_through_82 rfl rfl ?_
  refine z_if_ne (tgt := 108) dX11_through_83 (by decide) (fun _ => ?_) (fun c_ => absurd c_ (by decide +kernel))
  refine z_iload_n dX11_through_108 rfl rfl ?_
  refine z_iconst (v := 1) dX11_through_109 (by decide) ?_
  refine z_icmp_ne (tgt := 133) dX11_through_110 (by decide) (fun _ => ?_) (fun c_ => absurd c_ (by decide +kernel))
  refine z_iload_n dX11_through_133 rfl rfl ?_
  refine z_iconst (v := nI 2) dX11_through_134 (by decide) ?_
  refine z_icmp_ne (tgt := 151) dX11_through_135 (by decide) (fun _ => ?_) (fun c_ => absurd c_ (by decide +kernel))
  refine z_iload_n dX11_through_151 rfl rfl ?_
  refine z_iconst (v := nI 3) dX11_through_152 (by decide) ?_
  refine z_bipush (v := nI 8) dX11_through_153 (by decide) ?_
  refine z_cS1 dX11_through_155 ml_X11_114 (sp_within) rfl rfl (Nat.le_of_ble_eq_true rfl) ?_
  refine z_if_eq (tgt := 179) dX11_through_158 (by decide) (fun c_ => absurd c_ (by decide +kernel)) (fun _ => ?_)
  refine z_aload_n dX11_through_161 rfl rfl ?_
  refine z_getR dX11_through_162 fl_X11_105 rfl rfl rfl ?_
  refine z_aload_n dX11_through_165 rfl rfl ?_
  refine z_getI dX11_through_166 fl_X11_216 rfl rfl (show _ = nI e by simp [hg, z_up]) ?_
  refine z_aload_n dX11_through_169 rfl rfl ?_
  refine z_iload_n dX11_through_170 rfl rfl ?_
  refine z_iload dX11_through_171 rfl ?_
  refine z_iload dX11_through_173 rfl ?_
  refine z_cV1 dX11_through_175 ml_X11_219 (sp_calculated (show _ = nI n from hg_35.trans hn) h40 (by decide) (by decide) ha40 hb40) rfl ⟨by decide, rfl⟩ rfl rfl (Nat.le_of_ble_eq_true rfl) ?_
  refine z_iast dX11_through_178 rfl rfl (by omega) ?_
  refine z_iload_n dX11_through_179 rfl rfl ?_
  refine z_bipush (v := nI 9) dX11_through_180 (by decide) ?_
  refine z_icmp_eq (tgt := 191) dX11_through_182 (by decide) (fun c_ => absurd c_ (by decide +kernel)) (fun _ => ?_)
  refine z_iload_n dX11_through_185 rfl rfl ?_
  refine z_bipush (v := nI 11) dX11_through_186 (by decide) ?_
  refine z_icmp_ne (tgt := 226) dX11_through_188 (by decide) (fun _ => ?_) (fun c_ => absurd c_ (by decide +kernel))
  refine z_aload_n dX11_through_226 rfl rfl ?_
  refine z_dup dX11_through_227 rfl ?_
  refine z_getI dX11_through_228 fl_X11_216 rfl rfl (show _ = nI e by rw [z_up_o _ _ (Or.inl (by decide)), cal_44]; simp [hg, z_up]) ?_
  refine z_iload_n dX11_through_231 rfl rfl ?_
  refine z_cS1 dX11_through_232 ml_X11_136 (sp_rleaves (by decide)) rfl rfl (Nat.le_of_ble_eq_true rfl) ?_
  refine z_iadd dX11_through_235 (nI_add _ _) ?_
  refine z_putI dX11_through_236 fl_X11_216 rfl rfl (Or.inl rfl) rfl ?_
  refine z_aload_n dX11_through_239 rfl rfl ?_
  refine z_getR dX11_through_240 fl_X11_44 rfl rfl rfl ?_
  refine z_iload_n dX11_through_243 rfl rfl ?_
  refine z_zald dX11_through_244 rfl rfl (by omega) rfl ?_
  refine z_if_eq (tgt := 252) dX11_through_245 (by decide) (fun c245 => ?_) (fun c245 => ?_)
  · refine z_iconst (v := 1) dX11_through_252 (by decide) ?_
    refine z_istore dX11_through_253 (by decide) ?_
    show z_V _ _ _ _ _ _ _ _ _ [_, _, _, _, _, _, _, _] _ _
    refine z_iload_n dX11_through_255 rfl rfl ?_
    refine z_bipush (v := nI 14) dX11_through_256 (by decide) ?_
    refine z_icmp_ne (tgt := 310) dX11_through_258 (by decide) (fun _ => ?_) (fun c_ => absurd c_ (by decide +kernel))
    refine z_iload_n dX11_through_310 rfl rfl ?_
    refine z_bipush (v := nI 12) dX11_through_311 (by decide) ?_
    refine z_icmp_ne (tgt := 326) dX11_through_313 (by decide) (fun _ => ?_) (fun c_ => absurd c_ (by decide +kernel))
    refine z_iload_n dX11_through_326 rfl rfl ?_
    refine z_iconst (v := nI 3) dX11_through_327 (by decide) ?_
    refine z_bipush (v := nI 8) dX11_through_328 (by decide) ?_
    refine z_cS1 dX11_through_330 ml_X11_114 (sp_within) rfl rfl (Nat.le_of_ble_eq_true rfl) ?_
    refine z_if_eq (tgt := 372) dX11_through_333 (by decide) (fun c_ => absurd c_ (by decide +kernel)) (fun _ => ?_)
    refine z_aload_n dX11_through_336 rfl rfl ?_
    refine z_getI dX11_through_337 fl_X11_209 rfl rfl (show _ = nI (n + 1) by rw [z_up_o _ _ (Or.inr (by decide)), z_up_o _ _ (Or.inl (by decide))]; exact hsz) ?_
    refine z_iload dX11_through_340 rfl ?_
    refine z_icmp_le (tgt := 372) dX11_through_342 (by decide) (fun c_ => absurd c_ (nI_ge (by omega) (by omega))) (fun _ => ?_)
    refine z_aload_n dX11_through_345 rfl rfl ?_
    refine z_getR dX11_through_346 fl_X11_81 rfl rfl rfl ?_
    refine z_aload_n dX11_through_349 rfl rfl ?_
    refine z_getI dX11_through_350 fl_X11_209 rfl rfl (show _ = nI (n + 1) by rw [z_up_o _ _ (Or.inr (by decide)), z_up_o _ _ (Or.inl (by decide))]; exact hsz) ?_
    refine z_iconst (v := 1) dX11_through_353 (by decide) ?_
    refine z_isub dX11_through_354 (nI_pred n) ?_
    refine z_iald dX11_through_355 rfl rfl (by omega) (show _ = (cal (hg σ e) n 8 a b).2 113 n by rw [z_up_o _ _ (Or.inl (by decide)), z_up_o _ _ (Or.inl (by decide))]) ?_
    refine z_iconst (v := nI 2) dX11_through_356 (by decide) ?_
    refine z_icmp_ne (tgt := 372) dX11_through_357 (by decide) (fun _ => ?_) (fun c_ => absurd c_ (hkd))
    refine z_iconst (v := 0) dX11_through_372 (by decide) ?_
    exact z_iret dX11_through_373 rfl rfl rfl
  · refine z_iconst (v := nI 2) dX11_through_248 (by decide) ?_
    refine z_goto (tgt := 253) dX11_through_249 (by decide) ?_
    refine z_istore dX11_through_253 (by decide) ?_
    show z_V _ _ _ _ _ _ _ _ _ [_, _, _, _, _, _, _, _] _ _
    refine z_iload_n dX11_through_255 rfl rfl ?_
    refine z_bipush (v := nI 14) dX11_through_256 (by decide) ?_
    refine z_icmp_ne (tgt := 310) dX11_through_258 (by decide) (fun _ => ?_) (fun c_ => absurd c_ (by decide +kernel))
    refine z_iload_n dX11_through_310 rfl rfl ?_
    refine z_bipush (v := nI 12) dX11_through_311 (by decide) ?_
    refine z_icmp_ne (tgt := 326) dX11_through_313 (by decide) (fun _ => ?_) (fun c_ => absurd c_ (by decide +kernel))
    refine z_iload_n dX11_through_326 rfl rfl ?_
    refine z_iconst (v := nI 3) dX11_through_327 (by decide) ?_
    refine z_bipush (v := nI 8) dX11_through_328 (by decide) ?_
    refine z_cS1 dX11_through_330 ml_X11_114 (sp_within) rfl rfl (Nat.le_of_ble_eq_true rfl) ?_
    refine z_if_eq (tgt := 372) dX11_through_333 (by decide) (fun c_ => absurd c_ (by decide +kernel)) (fun _ => ?_)
    refine z_aload_n dX11_through_336 rfl rfl ?_
    refine z_getI dX11_through_337 fl_X11_209 rfl rfl (show _ = nI (n + 1) by rw [z_up_o _ _ (Or.inr (by decide)), z_up_o _ _ (Or.inl (by decide))]; exact hsz) ?_
    refine z_iload dX11_through_340 rfl ?_
    refine z_icmp_le (tgt := 372) dX11_through_342 (by decide) (fun c_ => absurd c_ (nI_ge (by omega) (by omega))) (fun _ => ?_)
    refine z_aload_n dX11_through_345 rfl rfl ?_
    refine z_getR dX11_through_346 fl_X11_81 rfl rfl rfl ?_
    refine z_aload_n dX11_through_349 rfl rfl ?_
    refine z_getI dX11_through_350 fl_X11_209 rfl rfl (show _ = nI (n + 1) by rw [z_up_o _ _ (Or.inr (by decide)), z_up_o _ _ (Or.inl (by decide))]; exact hsz) ?_
    refine z_iconst (v := 1) dX11_through_353 (by decide) ?_
    refine z_isub dX11_through_354 (nI_pred n) ?_
    refine z_iald dX11_through_355 rfl rfl (by omega) (show _ = (cal (hg σ e) n 8 a b).2 113 n by rw [z_up_o _ _ (Or.inl (by decide)), z_up_o _ _ (Or.inl (by decide))]) ?_
    refine z_iconst (v := nI 2) dX11_through_356 (by decide) ?_
    refine z_icmp_ne (tgt := 372) dX11_through_357 (by decide) (fun _ => ?_) (fun c_ => absurd c_ (hkd))
    refine z_iconst (v := 0) dX11_through_372 (by decide) ?_
    exact z_iret dX11_through_373 rfl rfl rfl
set_option maxRecDepth 100000 in
set_option maxHeartbeats 4000000 in
theorem sp_th14n {d : Nat} {σ : Nat → Nat → Int32} {τ : Nat → Nat → Int64} {j k n e : Nat} (hj : j < 30) (hk0 : σ 101 j = nI k) (hk : k < 40) (hn : σ 92 35 = nI n) (h40 : n < 40) (hop : σ 93 k = nI 14) (he : σ 92 44 = nI (e + 1)) (he8 : e + 1 ≤ 6) {b : Nat} (hb : σ 121 e = nI b) (hb40 : b < 40) (hno : σ 113 b ≤ 0 ∨ ¬ σ 119 b &&& (if σ 102 j = 0 then 1 else nI 2) = 0) : z_MV M_X11_through (d + 2) 0 0 [.ref 92, .int (nI j)] (124, z_r0, σ, τ) (some (.int (0))) (124, z_r0, hg (hg σ e) (e + 0), τ) := by
  refine z_MV.of pn_X11_through (Nat.le_of_ble_eq_true rfl) (by simp [Value.category]) rfl ?_
  show z_V _ _ _ _ _ _ _ _ _ [_, _, _, _, _, _, _, _] _ _
  refine z_aload_n dX11_through_0 rfl rfl ?_
  refine z_getR dX11_through_1 fl_X11_41 rfl rfl rfl ?_
  refine z_iload_n dX11_through_4 rfl rfl ?_
  refine z_iald dX11_through_5 rfl rfl (by omega) hk0 ?_
  refine z_istore_n dX11_through_6 rfl (by decide) ?_
  show z_V _ _ _ _ _ _ _ _ _ [_, _, _, _, _, _, _, _] _ _
  refine z_aload_n dX11_through_7 rfl rfl ?_
  refine z_getR dX11_through_8 fl_X11_7 rfl rfl rfl ?_
  refine z_iload_n dX11_through_11 rfl rfl ?_
  refine z_iald dX11_through_12 rfl rfl (by omega) hop ?_
  refine z_istore_n dX11_through_13 rfl (by decide) ?_
  show z_V _ _ _ _ _ _ _ _ _ [_, _, _, _, _, _, _, _] _ _
  refine z_aload_n dX11_through_14 rfl rfl ?_
  refine z_getI dX11_through_15 fl_X11_209 rfl rfl hn ?_
  refine z_istore dX11_through_18 (by decide) ?_
  show z_V _ _ _ _ _ _ _ _ _ [_, _, _, _, _, _, _, _] _ _
  refine z_iload_n dX11_through_20 rfl rfl ?_
  refine z_cS1 dX11_through_21 ml_X11_133 (sp_rtakes (by decide)) rfl rfl (Nat.le_of_ble_eq_true rfl) ?_
  refine z_if_le (tgt := 41) dX11_through_24 (by decide) (fun c_ => absurd c_ (by decide +kernel)) (fun _ => ?_)
  refine z_aload_n dX11_through_27 rfl rfl ?_
  refine z_getR dX11_through_28 fl_X11_105 rfl rfl rfl ?_
  refine z_aload_n dX11_through_31 rfl rfl ?_
  refine z_getI dX11_through_32 fl_X11_216 rfl rfl he ?_
  refine z_iconst (v := 1) dX11_through_35 (by decide) ?_
  refine z_isub dX11_through_36 (nI_pred _) ?_
  refine z_iald dX11_through_37 rfl rfl (by omega) hb ?_
  refine z_goto (tgt := 42) dX11_through_38 (by decide) ?_
  refine z_istore dX11_through_42 (by decide) ?_
  show z_V _ _ _ _ _ _ _ _ _ [_, _, _, _, _, _, _, _] _ _
  refine z_iload_n dX11_through_44 rfl rfl ?_
  refine z_cS1 dX11_through_45 ml_X11_133 (sp_rtakes (by decide)) rfl rfl (Nat.le_of_ble_eq_true rfl) ?_
  refine z_iconst (v := 1) dX11_through_48 (by decide) ?_
  refine z_icmp_le (tgt := 66) dX11_through_49 (by decide) (fun _ => ?_) (fun c_ => absurd (by decide +kernel) c_)
  refine z_iconst (v := 0) dX11_through_66 (by decide) ?_
  refine z_istore dX11_through_67 (by decide) ?_
  show z_V _ _ _ _ _ _ _ _ _ [_, _, _, _, _, _, _, _] _ _
  refine z_aload_n dX11_through_69 rfl rfl ?_
  refine z_dup dX11_through_70 rfl ?_
  refine z_getI dX11_through_71 fl_X11_216 rfl rfl he ?_
  refine z_iload_n dX11_through_74 rfl rfl ?_
  refine z_cS1 dX11_through_75 ml_X11_133 (sp_rtakes (by decide)) rfl rfl (Nat.le_of_ble_eq_true rfl) ?_
  refine z_isub dX11_through_78 (show _ = nI e from pk_sub (Nat.le_add_left 1 e)) ?_
  refine z_putI dX11_through_79 fl_X11_216 rfl rfl (Or.inl rfl) rfl ?_
  show z_V _ _ _ _ _ _ _ _ _ _ _ (124, z_r0, hg σ e, τ)
  refine z_iload_n dX11_through_82 rfl rfl ?_
  refine z_if_ne (tgt := 108) dX11_through_83 (by decide) (fun _ => ?_) (fun c_ => absurd c_ (by decide +kernel))
  refine z_iload_n dX11_through_108 rfl rfl ?_
  refine z_iconst (v := 1) dX11_through_109 (by decide) ?_
  refine z_icmp_ne (tgt := 133) dX11_through_110 (by decide) (fun _ => ?_) (fun c_ => absurd c_ (by decide +kernel))
  refine z_iload_n dX11_through_133 rfl rfl ?_
  refine z_iconst (v := nI 2) dX11_through_134 (by decide) ?_
  refine z_icmp_ne (tgt := 151) dX11_through_135 (by decide) (fun _ => ?_) (fun c_ => absurd c_ (by decide +kernel))
  refine z_iload_n dX11_through_151 rfl rfl ?_
  refine z_iconst (v := nI 3) dX11_through_152 (by decide) ?_
  refine z_bipush (v := nI 8) dX11_through_153 (by decide) ?_
  refine z_cS1 dX11_through_155 ml_X11_114 (sp_within) rfl rfl (Nat.le_of_ble_eq_true rfl) ?_
  refine z_if_eq (tgt := 179) dX11_through_158 (by decide) (fun _ => ?_) (fun c_ => absurd (by decide +kernel) c_)
  refine z_iload_n dX11_through_179 rfl rfl ?_
  refine z_bipush (v := nI 9) dX11_through_180 (by decide) ?_
  refine z_icmp_eq (tgt := 191) dX11_through_182 (by decide) (fun c_ => absurd c_ (by decide +kernel)) (fun _ => ?_)
  refine z_iload_n dX11_through_185 rfl rfl ?_
  refine z_bipush (v := nI 11) dX11_through_186 (by decide) ?_
  refine z_icmp_ne (tgt := 226) dX11_through_188 (by decide) (fun _ => ?_) (fun c_ => absurd c_ (by decide +kernel))
  refine z_aload_n dX11_through_226 rfl rfl ?_
  refine z_dup dX11_through_227 rfl ?_
  refine z_getI dX11_through_228 fl_X11_216 rfl rfl (show _ = nI e by simp [hg, z_up]) ?_
  refine z_iload_n dX11_through_231 rfl rfl ?_
  refine z_cS1 dX11_through_232 ml_X11_136 (sp_rleaves (by decide)) rfl rfl (Nat.le_of_ble_eq_true rfl) ?_
  refine z_iadd dX11_through_235 (nI_add _ _) ?_
  refine z_putI dX11_through_236 fl_X11_216 rfl rfl (Or.inl rfl) rfl ?_
  show z_V _ _ _ _ _ _ _ _ _ _ _ (124, z_r0, hg (hg σ e) (e + 0), τ)
  refine z_aload_n dX11_through_239 rfl rfl ?_
  refine z_getR dX11_through_240 fl_X11_44 rfl rfl rfl ?_
  refine z_iload_n dX11_through_243 rfl rfl ?_
  refine z_zald dX11_through_244 rfl rfl (by omega) (show _ = σ 102 j by rw [hg_ne (by decide), hg_ne (by decide)]) ?_
  refine z_if_eq (tgt := 252) dX11_through_245 (by decide) (fun c245 => ?_) (fun c245 => ?_)
  · refine z_iconst (v := 1) dX11_through_252 (by decide) ?_
    refine z_istore dX11_through_253 (by decide) ?_
    show z_V _ _ _ _ _ _ _ _ _ [_, _, _, _, _, _, _, _] _ _
    refine z_iload_n dX11_through_255 rfl rfl ?_
    refine z_bipush (v := nI 14) dX11_through_256 (by decide) ?_
    refine z_icmp_ne (tgt := 310) dX11_through_258 (by decide) (fun c_ => absurd (by decide +kernel) c_) (fun _ => ?_)
    refine z_aload_n dX11_through_261 rfl rfl ?_
    refine z_getR dX11_through_262 fl_X11_81 rfl rfl rfl ?_
    refine z_iload dX11_through_265 rfl ?_
    refine z_iald dX11_through_267 rfl rfl (by omega) (show _ = σ 113 b by rw [hg_ne (by decide), hg_ne (by decide)]) ?_
    refine z_if_le (tgt := 310) dX11_through_268 (by decide) (fun c268 => ?_) (fun c268 => ?_)
    · refine z_iload_n dX11_through_310 rfl rfl ?_
      refine z_bipush (v := nI 12) dX11_through_311 (by decide) ?_
      refine z_icmp_ne (tgt := 326) dX11_through_313 (by decide) (fun _ => ?_) (fun c_ => absurd c_ (by decide +kernel))
      refine z_iload_n dX11_through_326 rfl rfl ?_
      refine z_iconst (v := nI 3) dX11_through_327 (by decide) ?_
      refine z_bipush (v := nI 8) dX11_through_328 (by decide) ?_
      refine z_cS1 dX11_through_330 ml_X11_114 (sp_within) rfl rfl (Nat.le_of_ble_eq_true rfl) ?_
      refine z_if_eq (tgt := 372) dX11_through_333 (by decide) (fun _ => ?_) (fun c_ => absurd (by decide +kernel) c_)
      refine z_iconst (v := 0) dX11_through_372 (by decide) ?_
      exact z_iret dX11_through_373 rfl rfl rfl
    · refine z_aload_n dX11_through_271 rfl rfl ?_
      refine z_getR dX11_through_272 fl_X11_99 rfl rfl rfl ?_
      refine z_iload dX11_through_275 rfl ?_
      refine z_iald dX11_through_277 rfl rfl (by omega) (show _ = σ 119 b by rw [hg_ne (by decide), hg_ne (by decide)]) ?_
      refine z_iload dX11_through_278 rfl ?_
      refine z_iand dX11_through_280 rfl ?_
      refine z_if_ne (tgt := 310) dX11_through_281 (by decide) (fun c281 => ?_) (fun c281 => ?_)
      · refine z_iload_n dX11_through_310 rfl rfl ?_
        refine z_bipush (v := nI 12) dX11_through_311 (by decide) ?_
        refine z_icmp_ne (tgt := 326) dX11_through_313 (by decide) (fun _ => ?_) (fun c_ => absurd c_ (by decide +kernel))
        refine z_iload_n dX11_through_326 rfl rfl ?_
        refine z_iconst (v := nI 3) dX11_through_327 (by decide) ?_
        refine z_bipush (v := nI 8) dX11_through_328 (by decide) ?_
        refine z_cS1 dX11_through_330 ml_X11_114 (sp_within) rfl rfl (Nat.le_of_ble_eq_true rfl) ?_
        refine z_if_eq (tgt := 372) dX11_through_333 (by decide) (fun _ => ?_) (fun c_ => absurd (by decide +kernel) c_)
        refine z_iconst (v := 0) dX11_through_372 (by decide) ?_
        exact z_iret dX11_through_373 rfl rfl rfl
      · exact absurd hno (by simp_all)
  · refine z_iconst (v := nI 2) dX11_through_248 (by decide) ?_
    refine z_goto (tgt := 253) dX11_through_249 (by decide) ?_
    refine z_istore dX11_through_253 (by decide) ?_
    show z_V _ _ _ _ _ _ _ _ _ [_, _, _, _, _, _, _, _] _ _
    refine z_iload_n dX11_through_255 rfl rfl ?_
    refine z_bipush (v := nI 14) dX11_through_256 (by decide) ?_
    refine z_icmp_ne (tgt := 310) dX11_through_258 (by decide) (fun c_ => absurd (by decide +kernel) c_) (fun _ => ?_)
    refine z_aload_n dX11_through_261 rfl rfl ?_
    refine z_getR dX11_through_262 fl_X11_81 rfl rfl rfl ?_
    refine z_iload dX11_through_265 rfl ?_
    refine z_iald dX11_through_267 rfl rfl (by omega) (show _ = σ 113 b by rw [hg_ne (by decide), hg_ne (by decide)]) ?_
    refine z_if_le (tgt := 310) dX11_through_268 (by decide) (fun c268 => ?_) (fun c268 => ?_)
    · refine z_iload_n dX11_through_310 rfl rfl ?_
      refine z_bipush (v := nI 12) dX11_through_311 (by decide) ?_
      refine z_icmp_ne (tgt := 326) dX11_through_313 (by decide) (fun _ => ?_) (fun c_ => absurd c_ (by decide +kernel))
      refine z_iload_n dX11_through_326 rfl rfl ?_
      refine z_iconst (v := nI 3) dX11_through_327 (by decide) ?_
      refine z_bipush (v := nI 8) dX11_through_328 (by decide) ?_
      refine z_cS1 dX11_through_330 ml_X11_114 (sp_within) rfl rfl (Nat.le_of_ble_eq_true rfl) ?_
      refine z_if_eq (tgt := 372) dX11_through_333 (by decide) (fun _ => ?_) (fun c_ => absurd (by decide +kernel) c_)
      refine z_iconst (v := 0) dX11_through_372 (by decide) ?_
      exact z_iret dX11_through_373 rfl rfl rfl
    · refine z_aload_n dX11_through_271 rfl rfl ?_
      refine z_getR dX11_through_272 fl_X11_99 rfl rfl rfl ?_
      refine z_iload dX11_through_275 rfl ?_
      refine z_iald dX11_through_277 rfl rfl (by omega) (show _ = σ 119 b by rw [hg_ne (by decide), hg_ne (by decide)]) ?_
      refine z_iload dX11_through_278 rfl ?_
      refine z_iand dX11_through_280 rfl ?_
      refine z_if_ne (tgt := 310) dX11_through_281 (by decide) (fun c281 => ?_) (fun c281 => ?_)
      · refine z_iload_n dX11_through_310 rfl rfl ?_
        refine z_bipush (v := nI 12) dX11_through_311 (by decide) ?_
        refine z_icmp_ne (tgt := 326) dX11_through_313 (by decide) (fun _ => ?_) (fun c_ => absurd c_ (by decide +kernel))
        refine z_iload_n dX11_through_326 rfl rfl ?_
        refine z_iconst (v := nI 3) dX11_through_327 (by decide) ?_
        refine z_bipush (v := nI 8) dX11_through_328 (by decide) ?_
        refine z_cS1 dX11_through_330 ml_X11_114 (sp_within) rfl rfl (Nat.le_of_ble_eq_true rfl) ?_
        refine z_if_eq (tgt := 372) dX11_through_333 (by decide) (fun _ => ?_) (fun c_ => absurd (by decide +kernel) c_)
        refine z_iconst (v := 0) dX11_through_372 (by decide) ?_
        exact z_iret dX11_through_373 rfl rfl rfl
      · exact absurd hno (by simp_all)
set_option maxRecDepth 100000 in
set_option maxHeartbeats 4000000 in
theorem sp_th14y {d : Nat} {σ : Nat → Nat → Int32} {τ : Nat → Nat → Int64} {j k n e : Nat} (hj : j < 30) (hk0 : σ 101 j = nI k) (hk : k < 40) (hn : σ 92 35 = nI n) (h40 : n < 40) (hop : σ 93 k = nI 14) (he : σ 92 44 = nI (e + 1)) (he8 : e + 1 ≤ 6) {b : Nat} (hb : σ 121 e = nI b) (hb40 : b < 40) (hk0b : ¬ σ 113 b ≤ 0) (hy0 : σ 119 b &&& (if σ 102 j = 0 then 1 else nI 2) = 0) (hl : ∀ l, l < 6 → ∃ q, q < 40 ∧ σ 120 l = nI q) (hs : ∀ s, s < e → ∃ q, q < 40 ∧ σ 121 s = nI q) : z_MV M_X11_through (d + 2) 0 0 [.ref 92, .int (nI j)] (124, z_r0, σ, τ) (some (.int (1))) (124, z_r0, picS (z_up (z_up (hg (hg σ e) (e + 0)) 119 b (σ 119 b ||| (if σ 102 j = 0 then 1 else nI 2))) 117 b 1) e, τ) := by
  refine z_MV.of pn_X11_through (Nat.le_of_ble_eq_true rfl) (by simp [Value.category]) rfl ?_
  show z_V _ _ _ _ _ _ _ _ _ [_, _, _, _, _, _, _, _] _ _
  refine z_aload_n dX11_through_0 rfl rfl ?_
  refine z_getR dX11_through_1 fl_X11_41 rfl rfl rfl ?_
  refine z_iload_n dX11_through_4 rfl rfl ?_
  refine z_iald dX11_through_5 rfl rfl (by omega) hk0 ?_
  refine z_istore_n dX11_through_6 rfl (by decide) ?_
  show z_V _ _ _ _ _ _ _ _ _ [_, _, _, _, _, _, _, _] _ _
  refine z_aload_n dX11_through_7 rfl rfl ?_
  refine z_getR dX11_through_8 fl_X11_7 rfl rfl rfl ?_
  refine z_iload_n dX11_through_11 rfl rfl ?_
  refine z_iald dX11_through_12 rfl rfl (by omega) hop ?_
  refine z_istore_n dX11_through_13 rfl (by decide) ?_
  show z_V _ _ _ _ _ _ _ _ _ [_, _, _, _, _, _, _, _] _ _
  refine z_aload_n dX11_through_14 rfl rfl ?_
  refine z_getI dX11_through_15 fl_X11_209 rfl rfl hn ?_
  refine z_istore dX11_through_18 (by decide) ?_
  show z_V _ _ _ _ _ _ _ _ _ [_, _, _, _, _, _, _, _] _ _
  refine z_iload_n dX11_through_20 rfl rfl ?_
  refine z_cS1 dX11_through_21 ml_X11_133 (sp_rtakes (by decide)) rfl rfl (Nat.le_of_ble_eq_true rfl) ?_
  refine z_if_le (tgt := 41) dX11_through_24 (by decide) (fun c_ => absurd c_ (by decide +kernel)) (fun _ => ?_)
  refine z_aload_n dX11_through_27 rfl rfl ?_
  refine z_getR dX11_through_28 fl_X11_105 rfl rfl rfl ?_
  refine z_aload_n dX11_through_31 rfl rfl ?_
  refine z_getI dX11_through_32 fl_X11_216 rfl rfl he ?_
  refine z_iconst (v := 1) dX11_through_35 (by decide) ?_
  refine z_isub dX11_through_36 (nI_pred _) ?_
  refine z_iald dX11_through_37 rfl rfl (by omega) hb ?_
  refine z_goto (tgt := 42) dX11_through_38 (by decide) ?_
  refine z_istore dX11_through_42 (by decide) ?_
  show z_V _ _ _ _ _ _ _ _ _ [_, _, _, _, _, _, _, _] _ _
  refine z_iload_n dX11_through_44 rfl rfl ?_
  refine z_cS1 dX11_through_45 ml_X11_133 (sp_rtakes (by decide)) rfl rfl (Nat.le_of_ble_eq_true rfl) ?_
  refine z_iconst (v := 1) dX11_through_48 (by decide) ?_
  refine z_icmp_le (tgt := 66) dX11_through_49 (by decide) (fun _ => ?_) (fun c_ => absurd (by decide +kernel) c_)
  refine z_iconst (v := 0) dX11_through_66 (by decide) ?_
  refine z_istore dX11_through_67 (by decide) ?_
  show z_V _ _ _ _ _ _ _ _ _ [_, _, _, _, _, _, _, _] _ _
  refine z_aload_n dX11_through_69 rfl rfl ?_
  refine z_dup dX11_through_70 rfl ?_
  refine z_getI dX11_through_71 fl_X11_216 rfl rfl he ?_
  refine z_iload_n dX11_through_74 rfl rfl ?_
  refine z_cS1 dX11_through_75 ml_X11_133 (sp_rtakes (by decide)) rfl rfl (Nat.le_of_ble_eq_true rfl) ?_
  refine z_isub dX11_through_78 (show _ = nI e from pk_sub (Nat.le_add_left 1 e)) ?_
  refine z_putI dX11_through_79 fl_X11_216 rfl rfl (Or.inl rfl) rfl ?_
  show z_V _ _ _ _ _ _ _ _ _ _ _ (124, z_r0, hg σ e, τ)
  refine z_iload_n dX11_through_82 rfl rfl ?_
  refine z_if_ne (tgt := 108) dX11_through_83 (by decide) (fun _ => ?_) (fun c_ => absurd c_ (by decide +kernel))
  refine z_iload_n dX11_through_108 rfl rfl ?_
  refine z_iconst (v := 1) dX11_through_109 (by decide) ?_
  refine z_icmp_ne (tgt := 133) dX11_through_110 (by decide) (fun _ => ?_) (fun c_ => absurd c_ (by decide +kernel))
  refine z_iload_n dX11_through_133 rfl rfl ?_
  refine z_iconst (v := nI 2) dX11_through_134 (by decide) ?_
  refine z_icmp_ne (tgt := 151) dX11_through_135 (by decide) (fun _ => ?_) (fun c_ => absurd c_ (by decide +kernel))
  refine z_iload_n dX11_through_151 rfl rfl ?_
  refine z_iconst (v := nI 3) dX11_through_152 (by decide) ?_
  refine z_bipush (v := nI 8) dX11_through_153 (by decide) ?_
  refine z_cS1 dX11_through_155 ml_X11_114 (sp_within) rfl rfl (Nat.le_of_ble_eq_true rfl) ?_
  refine z_if_eq (tgt := 179) dX11_through_158 (by decide) (fun _ => ?_) (fun c_ => absurd (by decide +kernel) c_)
  refine z_iload_n dX11_through_179 rfl rfl ?_
  refine z_bipush (v := nI 9) dX11_through_180 (by decide) ?_
  refine z_icmp_eq (tgt := 191) dX11_through_182 (by decide) (fun c_ => absurd c_ (by decide +kernel)) (fun _ => ?_)
  refine z_iload_n dX11_through_185 rfl rfl ?_
  refine z_bipush (v := nI 11) dX11_through_186 (by decide) ?_
  refine z_icmp_ne (tgt := 226) dX11_through_188 (by decide) (fun _ => ?_) (fun c_ => absurd c_ (by decide +kernel))
  refine z_aload_n dX11_through_226 rfl rfl ?_
  refine z_dup dX11_through_227 rfl ?_
  refine z_getI dX11_through_228 fl_X11_216 rfl rfl (show _ = nI e by simp [hg, z_up]) ?_
  refine z_iload_n dX11_through_231 rfl rfl ?_
  refine z_cS1 dX11_through_232 ml_X11_136 (sp_rleaves (by decide)) rfl rfl (Nat.le_of_ble_eq_true rfl) ?_
  refine z_iadd dX11_through_235 (nI_add _ _) ?_
  refine z_putI dX11_through_236 fl_X11_216 rfl rfl (Or.inl rfl) rfl ?_
  show z_V _ _ _ _ _ _ _ _ _ _ _ (124, z_r0, hg (hg σ e) (e + 0), τ)
  refine z_aload_n dX11_through_239 rfl rfl ?_
  refine z_getR dX11_through_240 fl_X11_44 rfl rfl rfl ?_
  refine z_iload_n dX11_through_243 rfl rfl ?_
  refine z_zald dX11_through_244 rfl rfl (by omega) (show _ = σ 102 j by rw [hg_ne (by decide), hg_ne (by decide)]) ?_
  refine z_if_eq (tgt := 252) dX11_through_245 (by decide) (fun c245 => ?_) (fun c245 => ?_)
  · refine z_iconst (v := 1) dX11_through_252 (by decide) ?_
    refine z_istore dX11_through_253 (by decide) ?_
    show z_V _ _ _ _ _ _ _ _ _ [_, _, _, _, _, _, _, _] _ _
    refine z_iload_n dX11_through_255 rfl rfl ?_
    refine z_bipush (v := nI 14) dX11_through_256 (by decide) ?_
    refine z_icmp_ne (tgt := 310) dX11_through_258 (by decide) (fun c_ => absurd (by decide +kernel) c_) (fun _ => ?_)
    refine z_aload_n dX11_through_261 rfl rfl ?_
    refine z_getR dX11_through_262 fl_X11_81 rfl rfl rfl ?_
    refine z_iload dX11_through_265 rfl ?_
    refine z_iald dX11_through_267 rfl rfl (by omega) (show _ = σ 113 b by rw [hg_ne (by decide), hg_ne (by decide)]) ?_
    refine z_if_le (tgt := 310) dX11_through_268 (by decide) (fun c_ => absurd c_ (hk0b)) (fun _ => ?_)
    refine z_aload_n dX11_through_271 rfl rfl ?_
    refine z_getR dX11_through_272 fl_X11_99 rfl rfl rfl ?_
    refine z_iload dX11_through_275 rfl ?_
    refine z_iald dX11_through_277 rfl rfl (by omega) (show _ = σ 119 b by rw [hg_ne (by decide), hg_ne (by decide)]) ?_
    refine z_iload dX11_through_278 rfl ?_
    refine z_iand dX11_through_280 rfl ?_
    refine z_if_ne (tgt := 310) dX11_through_281 (by decide) (fun c281 => ?_) (fun c281 => ?_)
    · exact absurd hy0 (by simp_all)
    · refine z_aload_n dX11_through_284 rfl rfl ?_
      refine z_getR dX11_through_285 fl_X11_99 rfl rfl rfl ?_
      refine z_iload dX11_through_288 rfl ?_
      refine z_dup2 dX11_through_290 rfl rfl ?_
      refine z_iald dX11_through_291 rfl rfl (by omega) (show _ = σ 119 b by rw [hg_ne (by decide), hg_ne (by decide)]) ?_
      refine z_iload dX11_through_292 rfl ?_
      refine z_ior dX11_through_294 rfl ?_
      refine z_iast dX11_through_295 rfl rfl (by omega) ?_
      refine z_aload_n dX11_through_296 rfl rfl ?_
      refine z_getR dX11_through_297 fl_X11_93 rfl rfl rfl ?_
      refine z_iload dX11_through_300 rfl ?_
      refine z_iconst (v := 1) dX11_through_302 (by decide) ?_
      refine z_zast dX11_through_303 rfl rfl (by omega) (by first | exact Or.inl rfl | exact Or.inr rfl) ?_
      refine z_aload_n dX11_through_304 rfl rfl ?_
      refine z_cV0 dX11_through_305 ml_X11_222 (sp_picture (e := e) (show _ = nI e by simp [hg, z_up]) (by omega) (by rw [z_up_ne _ _ _ (by decide), z_up_ne _ _ _ (by decide), hg_ne (by decide), hg_ne (by decide)]; exact hl) (by rw [z_up_ne _ _ _ (by decide), z_up_ne _ _ _ (by decide), hg_ne (by decide), hg_ne (by decide)]; exact hs)) rfl ⟨by decide, rfl⟩ rfl rfl (Nat.le_of_ble_eq_true rfl) ?_
      refine z_iconst (v := 1) dX11_through_308 (by decide) ?_
      exact z_iret dX11_through_309 rfl rfl (by simp [c245])
  · refine z_iconst (v := nI 2) dX11_through_248 (by decide) ?_
    refine z_goto (tgt := 253) dX11_through_249 (by decide) ?_
    refine z_istore dX11_through_253 (by decide) ?_
    show z_V _ _ _ _ _ _ _ _ _ [_, _, _, _, _, _, _, _] _ _
    refine z_iload_n dX11_through_255 rfl rfl ?_
    refine z_bipush (v := nI 14) dX11_through_256 (by decide) ?_
    refine z_icmp_ne (tgt := 310) dX11_through_258 (by decide) (fun c_ => absurd (by decide +kernel) c_) (fun _ => ?_)
    refine z_aload_n dX11_through_261 rfl rfl ?_
    refine z_getR dX11_through_262 fl_X11_81 rfl rfl rfl ?_
    refine z_iload dX11_through_265 rfl ?_
    refine z_iald dX11_through_267 rfl rfl (by omega) (show _ = σ 113 b by rw [hg_ne (by decide), hg_ne (by decide)]) ?_
    refine z_if_le (tgt := 310) dX11_through_268 (by decide) (fun c_ => absurd c_ (hk0b)) (fun _ => ?_)
    refine z_aload_n dX11_through_271 rfl rfl ?_
    refine z_getR dX11_through_272 fl_X11_99 rfl rfl rfl ?_
    refine z_iload dX11_through_275 rfl ?_
    refine z_iald dX11_through_277 rfl rfl (by omega) (show _ = σ 119 b by rw [hg_ne (by decide), hg_ne (by decide)]) ?_
    refine z_iload dX11_through_278 rfl ?_
    refine z_iand dX11_through_280 rfl ?_
    refine z_if_ne (tgt := 310) dX11_through_281 (by decide) (fun c281 => ?_) (fun c281 => ?_)
    · exact absurd hy0 (by simp_all)
    · refine z_aload_n dX11_through_284 rfl rfl ?_
      refine z_getR dX11_through_285 fl_X11_99 rfl rfl rfl ?_
      refine z_iload dX11_through_288 rfl ?_
      refine z_dup2 dX11_through_290 rfl rfl ?_
      refine z_iald dX11_through_291 rfl rfl (by omega) (show _ = σ 119 b by rw [hg_ne (by decide), hg_ne (by decide)]) ?_
      refine z_iload dX11_through_292 rfl ?_
      refine z_ior dX11_through_294 rfl ?_
      refine z_iast dX11_through_295 rfl rfl (by omega) ?_
      refine z_aload_n dX11_through_296 rfl rfl ?_
      refine z_getR dX11_through_297 fl_X11_93 rfl rfl rfl ?_
      refine z_iload dX11_through_300 rfl ?_
      refine z_iconst (v := 1) dX11_through_302 (by decide) ?_
      refine z_zast dX11_through_303 rfl rfl (by omega) (by first | exact Or.inl rfl | exact Or.inr rfl) ?_
      refine z_aload_n dX11_through_304 rfl rfl ?_
      refine z_cV0 dX11_through_305 ml_X11_222 (sp_picture (e := e) (show _ = nI e by simp [hg, z_up]) (by omega) (by rw [z_up_ne _ _ _ (by decide), z_up_ne _ _ _ (by decide), hg_ne (by decide), hg_ne (by decide)]; exact hl) (by rw [z_up_ne _ _ _ (by decide), z_up_ne _ _ _ (by decide), hg_ne (by decide), hg_ne (by decide)]; exact hs)) rfl ⟨by decide, rfl⟩ rfl rfl (Nat.le_of_ble_eq_true rfl) ?_
      refine z_iconst (v := 1) dX11_through_308 (by decide) ?_
      exact z_iret dX11_through_309 rfl rfl (by simp [c245])
