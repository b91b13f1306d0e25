/-! PART 30: TraceTier: the methods below run -/
def fgP (σ : Nat → Nat → Int32) : Nat → Nat → Int32 := z_up (z_up (z_up (z_up (fillR (fillR (fillR (z_up (z_up (z_up (z_up (z_up (z_up (z_up (z_up (fillR σ 7 0 6) 6 2 0) 6 3 0) 9 1 0) 9 2 0) 11 0 0) 11 1 0) 11 2 0) 11 3 0) 13 0 40) 14 0 40) 15 (-1) 40) 16 2 (-1)) 0 8 0) 0 10 0) 0 12 (-1)
def guS (σ : Nat → Nat → Int32) (p : Nat) : Nat → Nat → Int32 := z_up (z_up σ 14 p (nI 2)) 16 2 (-1)
def hlS (σ : Nat → Nat → Int32) : Nat → Nat → Int32 := if σ 16 2 = -1 then z_up σ 0 10 1 else guS (z_up σ 0 10 1) (tN (σ 16 2))
def cjS (σ : Nat → Nat → Int32) (p : Nat) : Nat → Nat → Int32 :=
  if ¬ σ 14 p = 0 then σ else if ¬ nI 3 ≤ σ 13 p + 1 then z_up σ 13 p (σ 13 p + 1)
  else if σ 6 2 = 0 ∧ ¬ nI 4 ≤ σ 0 8 then z_up (z_up (z_up σ 13 p (σ 13 p + 1)) 16 2 (nI p)) 16 3 0
  else z_up (z_up σ 13 p (σ 13 p + 1)) 14 p (nI 2)
def ntS (σ : Nat → Nat → Int32) (e a : Nat) (y : Int32) : Nat → Nat → Int32 := z_up (z_up (z_up σ 17 e (nI a)) 18 e y) 16 3 (nI (e + 1))
theorem nI_nm1 {n : Nat} (h : n < 2 ^ 31) : ¬ nI n = -1 := fun q => absurd (show nI n < 0 by rw [q]; decide) (nI_pos h)
set_option maxRecDepth 100000 in
set_option maxHeartbeats 4000000 in
theorem sp_forgetProgram {d : Nat} {σ : Nat → Nat → Int32} {τ : Nat → Nat → Int64} : z_MV M_X10_forgetProgram (d + 2) 0 0 [.ref 0] (124, z_r0, σ, τ) (none) (124, z_r0, fgP σ, τ) := by
  refine z_MV.of pn_X10_forgetProgram (Nat.le_of_ble_eq_true rfl) (by simp [Value.category]) rfl ?_
  show z_V _ _ _ _ _ _ _ _ _ [_] _ _
  refine z_aload_n dX10_forgetProgram_0 rfl rfl ?_
  refine z_getR dX10_forgetProgram_1 fl_X10_19 rfl rfl rfl ?_
  refine z_cV0 dX10_forgetProgram_4 ml_X10_206 (sp_freset (Or.inl rfl)) rfl ⟨by decide, rfl⟩ rfl rfl (Nat.le_of_ble_eq_true rfl) ?_
  refine z_aload_n dX10_forgetProgram_7 rfl rfl ?_
  refine z_getR dX10_forgetProgram_8 fl_X10_26 rfl rfl rfl ?_
  refine z_cV0 dX10_forgetProgram_11 ml_X10_209 (sp_greset) rfl ⟨by decide, rfl⟩ rfl rfl (Nat.le_of_ble_eq_true rfl) ?_
  refine z_aload_n dX10_forgetProgram_14 rfl rfl ?_
  refine z_getR dX10_forgetProgram_15 fl_X10_33 rfl rfl rfl ?_
  refine z_cV0 dX10_forgetProgram_18 ml_X10_210 (sp_treset) rfl ⟨by decide, rfl⟩ rfl rfl (Nat.le_of_ble_eq_true rfl) ?_
  refine z_aload_n dX10_forgetProgram_21 rfl rfl ?_
  refine z_getR dX10_forgetProgram_22 fl_X10_40 rfl rfl rfl ?_
  refine z_cV0 dX10_forgetProgram_25 ml_X10_211 (sp_preset) rfl ⟨by decide, rfl⟩ rfl rfl (Nat.le_of_ble_eq_true rfl) ?_
  refine z_aload_n dX10_forgetProgram_28 rfl rfl ?_
  refine z_getR dX10_forgetProgram_29 fl_X10_47 rfl rfl rfl ?_
  refine z_cV0 dX10_forgetProgram_32 ml_X10_212 (sp_stop) rfl ⟨by decide, rfl⟩ rfl rfl (Nat.le_of_ble_eq_true rfl) ?_
  refine z_aload_n dX10_forgetProgram_35 rfl rfl ?_
  refine z_iconst (v := 0) dX10_forgetProgram_36 (by decide) ?_
  refine z_putI dX10_forgetProgram_37 fl_X10_163 rfl rfl (Or.inl rfl) rfl ?_
  refine z_aload_n dX10_forgetProgram_40 rfl rfl ?_
  refine z_iconst (v := 0) dX10_forgetProgram_41 (by decide) ?_
  refine z_putI dX10_forgetProgram_42 fl_X10_116 rfl rfl (Or.inr ⟨rfl, (by first | exact Or.inl rfl | exact Or.inr rfl)⟩) rfl ?_
  refine z_aload_n dX10_forgetProgram_45 rfl rfl ?_
  refine z_iconst (v := (-1)) dX10_forgetProgram_46 (by decide) ?_
  refine z_putI dX10_forgetProgram_47 fl_X10_65 rfl rfl (Or.inl rfl) rfl ?_
  exact z_vret dX10_forgetProgram_50 rfl rfl rfl
set_option maxRecDepth 100000 in
set_option maxHeartbeats 4000000 in
theorem sp_giveUp {d : Nat} {σ : Nat → Nat → Int32} {τ : Nat → Nat → Int64} {p : Nat} (hp : σ 16 2 = nI p) (hl : p < 40) : z_MV M_X10_giveUpRecording (d + 1) 0 0 [.ref 0] (124, z_r0, σ, τ) (none) (124, z_r0, guS σ p, τ) := by
  refine z_MV.of pn_X10_giveUpRecording (Nat.le_of_ble_eq_true rfl) (by simp [Value.category]) rfl ?_
  show z_V _ _ _ _ _ _ _ _ _ [_] _ _
  refine z_aload_n dX10_giveUpRecording_0 rfl rfl ?_
  refine z_getR dX10_giveUpRecording_1 fl_X10_40 rfl rfl rfl ?_
  refine z_getR dX10_giveUpRecording_4 fl_X10_176 rfl rfl rfl ?_
  refine z_aload_n dX10_giveUpRecording_7 rfl rfl ?_
  refine z_getR dX10_giveUpRecording_8 fl_X10_47 rfl rfl rfl ?_
  refine z_getI dX10_giveUpRecording_11 fl_X10_293 rfl rfl hp ?_
  refine z_iconst (v := nI 2) dX10_giveUpRecording_14 (by decide) ?_
  refine z_iast dX10_giveUpRecording_15 rfl rfl (by omega) ?_
  refine z_aload_n dX10_giveUpRecording_16 rfl rfl ?_
  refine z_getR dX10_giveUpRecording_17 fl_X10_47 rfl rfl rfl ?_
  refine z_cV0 dX10_giveUpRecording_20 ml_X10_212 (sp_stop) rfl ⟨by decide, rfl⟩ rfl rfl (Nat.le_of_ble_eq_true rfl) ?_
  exact z_vret dX10_giveUpRecording_23 rfl rfl rfl
set_option maxRecDepth 100000 in
set_option maxHeartbeats 4000000 in
theorem sp_halt {d : Nat} {σ : Nat → Nat → Int32} {τ : Nat → Nat → Int64} (hr0 : σ 16 2 = -1 ∨ ∃ p, p < 40 ∧ σ 16 2 = nI p) : z_MV M_X10_halt (d + 2) 0 0 [.ref 0] (124, z_r0, σ, τ) (none) (124, z_r0, hlS σ, τ) := by
  refine z_MV.of pn_X10_halt (Nat.le_of_ble_eq_true rfl) (by simp [Value.category]) rfl ?_
  show z_V _ _ _ _ _ _ _ _ _ [_] _ _
  refine z_aload_n dX10_halt_0 rfl rfl ?_
  refine z_iconst (v := 1) dX10_halt_1 (by decide) ?_
  refine z_putI dX10_halt_2 fl_X10_116 rfl rfl (Or.inr ⟨rfl, (by first | exact Or.inl rfl | exact Or.inr rfl)⟩) rfl ?_
  refine z_aload_n dX10_halt_5 rfl rfl ?_
  refine z_getR dX10_halt_6 fl_X10_47 rfl rfl rfl ?_
  refine z_cV1 dX10_halt_9 ml_X10_166 (sp_isOn) rfl ⟨by decide, rfl⟩ rfl rfl (Nat.le_of_ble_eq_true rfl) ?_
  refine z_if_eq (tgt := 19) dX10_halt_12 (by decide) (fun c12 => ?_) (fun c12 => ?_)
  · have hq : σ 16 2 = -1 := by
      rcases Decidable.em (σ 16 2 = -1) with q | q
      · exact q
      · rw [b2i_t (show z_up σ 0 10 1 16 2 ≠ -1 from q)] at c12; exact absurd c12 (by decide)
    exact z_vret dX10_halt_19 rfl rfl (by simp [hlS, hq])
  · have hq : ¬ σ 16 2 = -1 := fun q => by rw [b2i_f (show ¬ z_up σ 0 10 1 16 2 ≠ -1 from fun z => z q)] at c12; exact absurd rfl c12
    obtain ⟨p, hl, hp⟩ : ∃ p, p < 40 ∧ σ 16 2 = nI p := hr0.resolve_left hq
    refine z_aload_n dX10_halt_15 rfl rfl ?_
    refine z_cV0 dX10_halt_16 ml_X10_218 (sp_giveUp (p := p) (show _ = nI p by rw [z_up_o _ _ (Or.inl (by decide))]; exact hp) hl) rfl ⟨by decide, rfl⟩ rfl rfl (Nat.le_of_ble_eq_true rfl) ?_
    exact z_vret dX10_halt_19 rfl rfl (by simp only [hlS]; rw [if_neg hq, hp, tN_nI (by omega)])
set_option maxRecDepth 100000 in
set_option maxHeartbeats 4000000 in
theorem sp_countJumpTo {d : Nat} {σ : Nat → Nat → Int32} {τ : Nat → Nat → Int64} {p : Nat} (hl : p < 40) : z_MV M_X10_countJumpTo (d + 1) 0 0 [.ref 0, .int (nI p)] (124, z_r0, σ, τ) (none) (124, z_r0, cjS σ p, τ) := by
  refine z_MV.of pn_X10_countJumpTo (Nat.le_of_ble_eq_true rfl) (by simp [Value.category]) rfl ?_
  show z_V _ _ _ _ _ _ _ _ _ [_, _] _ _
  refine z_aload_n dX10_countJumpTo_0 rfl rfl ?_
  refine z_getR dX10_countJumpTo_1 fl_X10_40 rfl rfl rfl ?_
  refine z_getR dX10_countJumpTo_4 fl_X10_176 rfl rfl rfl ?_
  refine z_iload_n dX10_countJumpTo_7 rfl rfl ?_
  refine z_iald dX10_countJumpTo_8 rfl rfl (by omega) rfl ?_
  refine z_if_eq (tgt := 13) dX10_countJumpTo_9 (by decide) (fun c9 => ?_) (fun c9 => ?_)
  · refine z_aload_n dX10_countJumpTo_13 rfl rfl ?_
    refine z_getR dX10_countJumpTo_14 fl_X10_40 rfl rfl rfl ?_
    refine z_getR dX10_countJumpTo_17 fl_X10_173 rfl rfl rfl ?_
    refine z_iload_n dX10_countJumpTo_20 rfl rfl ?_
    refine z_dup2 dX10_countJumpTo_21 rfl rfl ?_
    refine z_iald dX10_countJumpTo_22 rfl rfl (by omega) rfl ?_
    refine z_iconst (v := 1) dX10_countJumpTo_23 (by decide) ?_
    refine z_iadd dX10_countJumpTo_24 rfl ?_
    refine z_iast dX10_countJumpTo_25 rfl rfl (by omega) ?_
    refine z_aload_n dX10_countJumpTo_26 rfl rfl ?_
    refine z_getR dX10_countJumpTo_27 fl_X10_40 rfl rfl rfl ?_
    refine z_getR dX10_countJumpTo_30 fl_X10_173 rfl rfl rfl ?_
    refine z_iload_n dX10_countJumpTo_33 rfl rfl ?_
    refine z_iald dX10_countJumpTo_34 rfl rfl (by omega) (show _ = σ 13 p + 1 by simp [z_up]) ?_
    refine z_iconst (v := nI 3) dX10_countJumpTo_35 (by decide) ?_
    refine z_icmp_ge (tgt := 40) dX10_countJumpTo_36 (by decide) (fun c36 => ?_) (fun c36 => ?_)
    · refine z_aload_n dX10_countJumpTo_40 rfl rfl ?_
      refine z_getR dX10_countJumpTo_41 fl_X10_19 rfl rfl rfl ?_
      refine z_getI dX10_countJumpTo_44 fl_X10_127 rfl rfl (show _ = σ 6 2 by simp [z_up]) ?_
      refine z_if_ne (tgt := 69) dX10_countJumpTo_47 (by decide) (fun c47 => ?_) (fun c47 => ?_)
      · refine z_aload_n dX10_countJumpTo_69 rfl rfl ?_
        refine z_getR dX10_countJumpTo_70 fl_X10_40 rfl rfl rfl ?_
        refine z_getR dX10_countJumpTo_73 fl_X10_176 rfl rfl rfl ?_
        refine z_iload_n dX10_countJumpTo_76 rfl rfl ?_
        refine z_iconst (v := nI 2) dX10_countJumpTo_77 (by decide) ?_
        refine z_iast dX10_countJumpTo_78 rfl rfl (by omega) ?_
        exact z_vret dX10_countJumpTo_79 rfl rfl (by simp [cjS, c9, c36, c47])
      · refine z_aload_n dX10_countJumpTo_50 rfl rfl ?_
        refine z_getI dX10_countJumpTo_51 fl_X10_163 rfl rfl (show _ = σ 0 8 by simp [z_up]) ?_
        refine z_iconst (v := nI 4) dX10_countJumpTo_54 (by decide) ?_
        refine z_icmp_ge (tgt := 69) dX10_countJumpTo_55 (by decide) (fun c55 => ?_) (fun c55 => ?_)
        · refine z_aload_n dX10_countJumpTo_69 rfl rfl ?_
          refine z_getR dX10_countJumpTo_70 fl_X10_40 rfl rfl rfl ?_
          refine z_getR dX10_countJumpTo_73 fl_X10_176 rfl rfl rfl ?_
          refine z_iload_n dX10_countJumpTo_76 rfl rfl ?_
          refine z_iconst (v := nI 2) dX10_countJumpTo_77 (by decide) ?_
          refine z_iast dX10_countJumpTo_78 rfl rfl (by omega) ?_
          exact z_vret dX10_countJumpTo_79 rfl rfl (by simp [cjS, c9, c36, c47, c55])
        · refine z_aload_n dX10_countJumpTo_58 rfl rfl ?_
          refine z_getR dX10_countJumpTo_59 fl_X10_47 rfl rfl rfl ?_
          refine z_iload_n dX10_countJumpTo_62 rfl rfl ?_
          refine z_cV0 dX10_countJumpTo_63 ml_X10_290 (sp_startAt) rfl ⟨by decide, rfl⟩ rfl rfl (Nat.le_of_ble_eq_true rfl) ?_
          refine z_goto (tgt := 79) dX10_countJumpTo_66 (by decide) ?_
          exact z_vret dX10_countJumpTo_79 rfl rfl (by simp [cjS, c9, c36, c47, c55])
    · exact z_vret dX10_countJumpTo_39 rfl rfl (by simp [cjS, c9, c36])
  · exact z_vret dX10_countJumpTo_12 rfl rfl (by simp [cjS, c9])
set_option maxRecDepth 100000 in
set_option maxHeartbeats 4000000 in
theorem sp_ex0 {d : Nat} {σ : Nat → Nat → Int32} {τ : Nat → Nat → Int64} {a e : Nat} {x : Int32} (ha : σ 6 3 = nI a) (he : σ 6 2 = nI e) (he6 : e < 6) : z_MV M_X10_execute (d + 3) 0 0 [.ref 0, .int (nI 0), .int x] (124, z_r0, σ, τ) (some (.int (0))) (124, z_r0, pu (z_up σ 6 3 (nI (a + 1))) 6 e x, τ) := by
  refine z_MV.of pn_X10_execute (Nat.le_of_ble_eq_true rfl) (by simp [Value.category]) rfl ?_
  show z_V _ _ _ _ _ _ _ _ _ [_, _, _, _, _, _] _ _
  refine z_aload_n dX10_execute_0 rfl rfl ?_
  refine z_getR dX10_execute_1 fl_X10_19 rfl rfl rfl ?_
  refine z_dup dX10_execute_4 rfl ?_
  refine z_getI dX10_execute_5 fl_X10_148 rfl rfl ha ?_
  refine z_iconst (v := 1) dX10_execute_8 (by decide) ?_
  refine z_iadd dX10_execute_9 (nI_1 _) ?_
  refine z_putI dX10_execute_10 fl_X10_148 rfl rfl (Or.inl rfl) rfl ?_
  refine z_iload_n dX10_execute_13 rfl rfl ?_
  refine z_tableIn (off := 78) (tgt := 92) dX10_execute_14 (by decide) (by decide) (by decide) (by decide) ?_
  refine z_aload_n dX10_execute_92 rfl rfl ?_
  refine z_getR dX10_execute_93 fl_X10_19 rfl rfl rfl ?_
  refine z_iload_n dX10_execute_96 rfl rfl ?_
  refine z_cV0 dX10_execute_97 ml_X10_271 (sp_push (Or.inl rfl) (show _ = nI e by rw [z_up_o _ _ (Or.inr (by decide))]; exact he) he6) rfl ⟨by decide, rfl⟩ rfl rfl (Nat.le_of_ble_eq_true rfl) ?_
  refine z_iconst (v := 0) dX10_execute_100 (by decide) ?_
  exact z_zret dX10_execute_101 rfl (by first | exact Or.inl rfl | exact Or.inr rfl) rfl rfl
set_option maxRecDepth 100000 in
set_option maxHeartbeats 4000000 in
theorem sp_ex3 {d : Nat} {σ : Nat → Nat → Int32} {τ : Nat → Nat → Int64} {a e : Nat} {x : Int32} (ha : σ 6 3 = nI a) (he : σ 6 2 = nI (e + 2)) (he6 : e + 1 < 6) : z_MV M_X10_execute (d + 3) 0 0 [.ref 0, .int (nI 3), .int x] (124, z_r0, σ, τ) (some (.int (0))) (124, z_r0, pu (po (po (z_up σ 6 3 (nI (a + 1))) 6 (e + 1)) 6 e) 6 e (wk 3 (σ 8 e) (σ 8 (e + 1))), τ) := by
  refine z_MV.of pn_X10_execute (Nat.le_of_ble_eq_true rfl) (by simp [Value.category]) rfl ?_
  show z_V _ _ _ _ _ _ _ _ _ [_, _, _, _, _, _] _ _
  refine z_aload_n dX10_execute_0 rfl rfl ?_
  refine z_getR dX10_execute_1 fl_X10_19 rfl rfl rfl ?_
  refine z_dup dX10_execute_4 rfl ?_
  refine z_getI dX10_execute_5 fl_X10_148 rfl rfl ha ?_
  refine z_iconst (v := 1) dX10_execute_8 (by decide) ?_
  refine z_iadd dX10_execute_9 (nI_1 _) ?_
  refine z_putI dX10_execute_10 fl_X10_148 rfl rfl (Or.inl rfl) rfl ?_
  refine z_iload_n dX10_execute_13 rfl rfl ?_
  refine z_tableIn (off := 88) (tgt := 102) dX10_execute_14 (by decide) (by decide) (by decide) (by decide) ?_
  refine z_aload_n dX10_execute_102 rfl rfl ?_
  refine z_getR dX10_execute_103 fl_X10_19 rfl rfl rfl ?_
  refine z_cV1 dX10_execute_106 ml_X10_274 (sp_pop (e := e + 1) (Or.inl rfl) (show _ = nI (e + 2) by rw [z_up_o _ _ (Or.inr (by decide))]; exact he) (by omega)) rfl ⟨by decide, rfl⟩ rfl rfl (Nat.le_of_ble_eq_true rfl) ?_
  refine z_istore_n dX10_execute_109 rfl (by decide) ?_
  show z_V _ _ _ _ _ _ _ _ _ [_, _, _, _, _, _] _ _
  refine z_aload_n dX10_execute_110 rfl rfl ?_
  refine z_getR dX10_execute_111 fl_X10_19 rfl rfl rfl ?_
  refine z_cV1 dX10_execute_114 ml_X10_274 (sp_pop (e := e) (Or.inl rfl) (show _ = nI (e + 1) by simp [z_up]) (by omega)) rfl ⟨by decide, rfl⟩ rfl rfl (Nat.le_of_ble_eq_true rfl) ?_
  refine z_istore dX10_execute_117 (by decide) ?_
  show z_V _ _ _ _ _ _ _ _ _ [_, _, _, _, _, _] _ _
  refine z_aload_n dX10_execute_119 rfl rfl ?_
  refine z_getR dX10_execute_120 fl_X10_19 rfl rfl rfl ?_
  refine z_iload_n dX10_execute_123 rfl rfl ?_
  refine z_iload dX10_execute_124 rfl ?_
  refine z_iload_n dX10_execute_126 rfl rfl ?_
  refine z_cS1 dX10_execute_127 ml_X10_277 (sp_result (by decide) (by decide)) rfl rfl (Nat.le_of_ble_eq_true rfl) ?_
  refine z_cV0 dX10_execute_130 ml_X10_271 (sp_push (e := e) (Or.inl rfl) (show _ = nI e by simp [z_up]) (by omega)) rfl ⟨by decide, rfl⟩ rfl rfl (Nat.le_of_ble_eq_true rfl) ?_
  refine z_iconst (v := 0) dX10_execute_133 (by decide) ?_
  exact z_zret dX10_execute_134 rfl (by first | exact Or.inl rfl | exact Or.inr rfl) rfl rfl
set_option maxRecDepth 100000 in
set_option maxHeartbeats 4000000 in
theorem sp_ex4 {d : Nat} {σ : Nat → Nat → Int32} {τ : Nat → Nat → Int64} {a e : Nat} {x : Int32} (ha : σ 6 3 = nI a) (he : σ 6 2 = nI (e + 2)) (he6 : e + 1 < 6) : z_MV M_X10_execute (d + 3) 0 0 [.ref 0, .int (nI 4), .int x] (124, z_r0, σ, τ) (some (.int (0))) (124, z_r0, pu (po (po (z_up σ 6 3 (nI (a + 1))) 6 (e + 1)) 6 e) 6 e (wk 4 (σ 8 e) (σ 8 (e + 1))), τ) := by
  refine z_MV.of pn_X10_execute (Nat.le_of_ble_eq_true rfl) (by simp [Value.category]) rfl ?_
  show z_V _ _ _ _ _ _ _ _ _ [_, _, _, _, _, _] _ _
  refine z_aload_n dX10_execute_0 rfl rfl ?_
  refine z_getR dX10_execute_1 fl_X10_19 rfl rfl rfl ?_
  refine z_dup dX10_execute_4 rfl ?_
  refine z_getI dX10_execute_5 fl_X10_148 rfl rfl ha ?_
  refine z_iconst (v := 1) dX10_execute_8 (by decide) ?_
  refine z_iadd dX10_execute_9 (nI_1 _) ?_
  refine z_putI dX10_execute_10 fl_X10_148 rfl rfl (Or.inl rfl) rfl ?_
  refine z_iload_n dX10_execute_13 rfl rfl ?_
  refine z_tableIn (off := 88) (tgt := 102) dX10_execute_14 (by decide) (by decide) (by decide) (by decide) ?_
  refine z_aload_n dX10_execute_102 rfl rfl ?_
  refine z_getR dX10_execute_103 fl_X10_19 rfl rfl rfl ?_
  refine z_cV1 dX10_execute_106 ml_X10_274 (sp_pop (e := e + 1) (Or.inl rfl) (show _ = nI (e + 2) by rw [z_up_o _ _ (Or.inr (by decide))]; exact he) (by omega)) rfl ⟨by decide, rfl⟩ rfl rfl (Nat.le_of_ble_eq_true rfl) ?_
  refine z_istore_n dX10_execute_109 rfl (by decide) ?_
  show z_V _ _ _ _ _ _ _ _ _ [_, _, _, _, _, _] _ _
  refine z_aload_n dX10_execute_110 rfl rfl ?_
  refine z_getR dX10_execute_111 fl_X10_19 rfl rfl rfl ?_
  refine z_cV1 dX10_execute_114 ml_X10_274 (sp_pop (e := e) (Or.inl rfl) (show _ = nI (e + 1) by simp [z_up]) (by omega)) rfl ⟨by decide, rfl⟩ rfl rfl (Nat.le_of_ble_eq_true rfl) ?_
  refine z_istore dX10_execute_117 (by decide) ?_
  show z_V _ _ _ _ _ _ _ _ _ [_, _, _, _, _, _] _ _
  refine z_aload_n dX10_execute_119 rfl rfl ?_
  refine z_getR dX10_execute_120 fl_X10_19 rfl rfl rfl ?_
  refine z_iload_n dX10_execute_123 rfl rfl ?_
  refine z_iload dX10_execute_124 rfl ?_
  refine z_iload_n dX10_execute_126 rfl rfl ?_
  refine z_cS1 dX10_execute_127 ml_X10_277 (sp_result (by decide) (by decide)) rfl rfl (Nat.le_of_ble_eq_true rfl) ?_
  refine z_cV0 dX10_execute_130 ml_X10_271 (sp_push (e := e) (Or.inl rfl) (show _ = nI e by simp [z_up]) (by omega)) rfl ⟨by decide, rfl⟩ rfl rfl (Nat.le_of_ble_eq_true rfl) ?_
  refine z_iconst (v := 0) dX10_execute_133 (by decide) ?_
  exact z_zret dX10_execute_134 rfl (by first | exact Or.inl rfl | exact Or.inr rfl) rfl rfl
set_option maxRecDepth 100000 in
set_option maxHeartbeats 4000000 in
theorem sp_ex5 {d : Nat} {σ : Nat → Nat → Int32} {τ : Nat → Nat → Int64} {a e : Nat} {x : Int32} (ha : σ 6 3 = nI a) (he : σ 6 2 = nI (e + 2)) (he6 : e + 1 < 6) : z_MV M_X10_execute (d + 3) 0 0 [.ref 0, .int (nI 5), .int x] (124, z_r0, σ, τ) (some (.int (0))) (124, z_r0, pu (po (po (z_up σ 6 3 (nI (a + 1))) 6 (e + 1)) 6 e) 6 e (wk 5 (σ 8 e) (σ 8 (e + 1))), τ) := by
  refine z_MV.of pn_X10_execute (Nat.le_of_ble_eq_true rfl) (by simp [Value.category]) rfl ?_
  show z_V _ _ _ _ _ _ _ _ _ [_, _, _, _, _, _] _ _
  refine z_aload_n dX10_execute_0 rfl rfl ?_
  refine z_getR dX10_execute_1 fl_X10_19 rfl rfl rfl ?_
  refine z_dup dX10_execute_4 rfl ?_
  refine z_getI dX10_execute_5 fl_X10_148 rfl rfl ha ?_
  refine z_iconst (v := 1) dX10_execute_8 (by decide) ?_
  refine z_iadd dX10_execute_9 (nI_1 _) ?_
  refine z_putI dX10_execute_10 fl_X10_148 rfl rfl (Or.inl rfl) rfl ?_
  refine z_iload_n dX10_execute_13 rfl rfl ?_
  refine z_tableIn (off := 88) (tgt := 102) dX10_execute_14 (by decide) (by decide) (by decide) (by decide) ?_
  refine z_aload_n dX10_execute_102 rfl rfl ?_
  refine z_getR dX10_execute_103 fl_X10_19 rfl rfl rfl ?_
  refine z_cV1 dX10_execute_106 ml_X10_274 (sp_pop (e := e + 1) (Or.inl rfl) (show _ = nI (e + 2) by rw [z_up_o _ _ (Or.inr (by decide))]; exact he) (by omega)) rfl ⟨by decide, rfl⟩ rfl rfl (Nat.le_of_ble_eq_true rfl) ?_
  refine z_istore_n dX10_execute_109 rfl (by decide) ?_
  show z_V _ _ _ _ _ _ _ _ _ [_, _, _, _, _, _] _ _
  refine z_aload_n dX10_execute_110 rfl rfl ?_
  refine z_getR dX10_execute_111 fl_X10_19 rfl rfl rfl ?_
  refine z_cV1 dX10_execute_114 ml_X10_274 (sp_pop (e := e) (Or.inl rfl) (show _ = nI (e + 1) by simp [z_up]) (by omega)) rfl ⟨by decide, rfl⟩ rfl rfl (Nat.le_of_ble_eq_true rfl) ?_
  refine z_istore dX10_execute_117 (by decide) ?_
  show z_V _ _ _ _ _ _ _ _ _ [_, _, _, _, _, _] _ _
  refine z_aload_n dX10_execute_119 rfl rfl ?_
  refine z_getR dX10_execute_120 fl_X10_19 rfl rfl rfl ?_
  refine z_iload_n dX10_execute_123 rfl rfl ?_
  refine z_iload dX10_execute_124 rfl ?_
  refine z_iload_n dX10_execute_126 rfl rfl ?_
  refine z_cS1 dX10_execute_127 ml_X10_277 (sp_result (by decide) (by decide)) rfl rfl (Nat.le_of_ble_eq_true rfl) ?_
  refine z_cV0 dX10_execute_130 ml_X10_271 (sp_push (e := e) (Or.inl rfl) (show _ = nI e by simp [z_up]) (by omega)) rfl ⟨by decide, rfl⟩ rfl rfl (Nat.le_of_ble_eq_true rfl) ?_
  refine z_iconst (v := 0) dX10_execute_133 (by decide) ?_
  exact z_zret dX10_execute_134 rfl (by first | exact Or.inl rfl | exact Or.inr rfl) rfl rfl
set_option maxRecDepth 100000 in
set_option maxHeartbeats 4000000 in
theorem sp_ex6 {d : Nat} {σ : Nat → Nat → Int32} {τ : Nat → Nat → Int64} {a e : Nat} {x : Int32} (ha : σ 6 3 = nI a) (he : σ 6 2 = nI (e + 2)) (he6 : e + 1 < 6) : z_MV M_X10_execute (d + 3) 0 0 [.ref 0, .int (nI 6), .int x] (124, z_r0, σ, τ) (some (.int (0))) (124, z_r0, pu (po (po (z_up σ 6 3 (nI (a + 1))) 6 (e + 1)) 6 e) 6 e (wk 6 (σ 8 e) (σ 8 (e + 1))), τ) := by
  refine z_MV.of pn_X10_execute (Nat.le_of_ble_eq_true rfl) (by simp [Value.category]) rfl ?_
  show z_V _ _ _ _ _ _ _ _ _ [_, _, _, _, _, _] _ _
  refine z_aload_n dX10_execute_0 rfl rfl ?_
  refine z_getR dX10_execute_1 fl_X10_19 rfl rfl rfl ?_
  refine z_dup dX10_execute_4 rfl ?_
  refine z_getI dX10_execute_5 fl_X10_148 rfl rfl ha ?_
  refine z_iconst (v := 1) dX10_execute_8 (by decide) ?_
  refine z_iadd dX10_execute_9 (nI_1 _) ?_
  refine z_putI dX10_execute_10 fl_X10_148 rfl rfl (Or.inl rfl) rfl ?_
  refine z_iload_n dX10_execute_13 rfl rfl ?_
  refine z_tableIn (off := 88) (tgt := 102) dX10_execute_14 (by decide) (by decide) (by decide) (by decide) ?_
  refine z_aload_n dX10_execute_102 rfl rfl ?_
  refine z_getR dX10_execute_103 fl_X10_19 rfl rfl rfl ?_
  refine z_cV1 dX10_execute_106 ml_X10_274 (sp_pop (e := e + 1) (Or.inl rfl) (show _ = nI (e + 2) by rw [z_up_o _ _ (Or.inr (by decide))]; exact he) (by omega)) rfl ⟨by decide, rfl⟩ rfl rfl (Nat.le_of_ble_eq_true rfl) ?_
  refine z_istore_n dX10_execute_109 rfl (by decide) ?_
  show z_V _ _ _ _ _ _ _ _ _ [_, _, _, _, _, _] _ _
  refine z_aload_n dX10_execute_110 rfl rfl ?_
  refine z_getR dX10_execute_111 fl_X10_19 rfl rfl rfl ?_
  refine z_cV1 dX10_execute_114 ml_X10_274 (sp_pop (e := e) (Or.inl rfl) (show _ = nI (e + 1) by simp [z_up]) (by omega)) rfl ⟨by decide, rfl⟩ rfl rfl (Nat.le_of_ble_eq_true rfl) ?_
  refine z_istore dX10_execute_117 (by decide) ?_
  show z_V _ _ _ _ _ _ _ _ _ [_, _, _, _, _, _] _ _
  refine z_aload_n dX10_execute_119 rfl rfl ?_
  refine z_getR dX10_execute_120 fl_X10_19 rfl rfl rfl ?_
  refine z_iload_n dX10_execute_123 rfl rfl ?_
  refine z_iload dX10_execute_124 rfl ?_
  refine z_iload_n dX10_execute_126 rfl rfl ?_
  refine z_cS1 dX10_execute_127 ml_X10_277 (sp_result (by decide) (by decide)) rfl rfl (Nat.le_of_ble_eq_true rfl) ?_
  refine z_cV0 dX10_execute_130 ml_X10_271 (sp_push (e := e) (Or.inl rfl) (show _ = nI e by simp [z_up]) (by omega)) rfl ⟨by decide, rfl⟩ rfl rfl (Nat.le_of_ble_eq_true rfl) ?_
  refine z_iconst (v := 0) dX10_execute_133 (by decide) ?_
  exact z_zret dX10_execute_134 rfl (by first | exact Or.inl rfl | exact Or.inr rfl) rfl rfl
set_option maxRecDepth 100000 in
set_option maxHeartbeats 4000000 in
theorem sp_ex7 {d : Nat} {σ : Nat → Nat → Int32} {τ : Nat → Nat → Int64} {a e : Nat} {x : Int32} (ha : σ 6 3 = nI a) (he : σ 6 2 = nI (e + 2)) (he6 : e + 1 < 6) : z_MV M_X10_execute (d + 3) 0 0 [.ref 0, .int (nI 7), .int x] (124, z_r0, σ, τ) (some (.int (0))) (124, z_r0, pu (po (po (z_up σ 6 3 (nI (a + 1))) 6 (e + 1)) 6 e) 6 e (wk 7 (σ 8 e) (σ 8 (e + 1))), τ) := by
  refine z_MV.of pn_X10_execute (Nat.le_of_ble_eq_true rfl) (by simp [Value.category]) rfl ?_
  show z_V _ _ _ _ _ _ _ _ _ [_, _, _, _, _, _] _ _
  refine z_aload_n dX10_execute_0 rfl rfl ?_
  refine z_getR dX10_execute_1 fl_X10_19 rfl rfl rfl ?_
  refine z_dup dX10_execute_4 rfl ?_
  refine z_getI dX10_execute_5 fl_X10_148 rfl rfl ha ?_
  refine z_iconst (v := 1) dX10_execute_8 (by decide) ?_
  refine z_iadd dX10_execute_9 (nI_1 _) ?_
  refine z_putI dX10_execute_10 fl_X10_148 rfl rfl (Or.inl rfl) rfl ?_
  refine z_iload_n dX10_execute_13 rfl rfl ?_
  refine z_tableIn (off := 88) (tgt := 102) dX10_execute_14 (by decide) (by decide) (by decide) (by decide) ?_
  refine z_aload_n dX10_execute_102 rfl rfl ?_
  refine z_getR dX10_execute_103 fl_X10_19 rfl rfl rfl ?_
  refine z_cV1 dX10_execute_106 ml_X10_274 (sp_pop (e := e + 1) (Or.inl rfl) (show _ = nI (e + 2) by rw [z_up_o _ _ (Or.inr (by decide))]; exact he) (by omega)) rfl ⟨by decide, rfl⟩ rfl rfl (Nat.le_of_ble_eq_true rfl) ?_
  refine z_istore_n dX10_execute_109 rfl (by decide) ?_
  show z_V _ _ _ _ _ _ _ _ _ [_, _, _, _, _, _] _ _
  refine z_aload_n dX10_execute_110 rfl rfl ?_
  refine z_getR dX10_execute_111 fl_X10_19 rfl rfl rfl ?_
  refine z_cV1 dX10_execute_114 ml_X10_274 (sp_pop (e := e) (Or.inl rfl) (show _ = nI (e + 1) by simp [z_up]) (by omega)) rfl ⟨by decide, rfl⟩ rfl rfl (Nat.le_of_ble_eq_true rfl) ?_
  refine z_istore dX10_execute_117 (by decide) ?_
  show z_V _ _ _ _ _ _ _ _ _ [_, _, _, _, _, _] _ _
  refine z_aload_n dX10_execute_119 rfl rfl ?_
  refine z_getR dX10_execute_120 fl_X10_19 rfl rfl rfl ?_
  refine z_iload_n dX10_execute_123 rfl rfl ?_
  refine z_iload dX10_execute_124 rfl ?_
  refine z_iload_n dX10_execute_126 rfl rfl ?_
  refine z_cS1 dX10_execute_127 ml_X10_277 (sp_result (by decide) (by decide)) rfl rfl (Nat.le_of_ble_eq_true rfl) ?_
  refine z_cV0 dX10_execute_130 ml_X10_271 (sp_push (e := e) (Or.inl rfl) (show _ = nI e by simp [z_up]) (by omega)) rfl ⟨by decide, rfl⟩ rfl rfl (Nat.le_of_ble_eq_true rfl) ?_
  refine z_iconst (v := 0) dX10_execute_133 (by decide) ?_
  exact z_zret dX10_execute_134 rfl (by first | exact Or.inl rfl | exact Or.inr rfl) rfl rfl
set_option maxRecDepth 100000 in
set_option maxHeartbeats 4000000 in
theorem sp_ex8 {d : Nat} {σ : Nat → Nat → Int32} {τ : Nat → Nat → Int64} {a e : Nat} {x : Int32} (ha : σ 6 3 = nI a) (he : σ 6 2 = nI (e + 2)) (he6 : e + 1 < 6) : z_MV M_X10_execute (d + 3) 0 0 [.ref 0, .int (nI 8), .int x] (124, z_r0, σ, τ) (some (.int (0))) (124, z_r0, pu (po (po (z_up σ 6 3 (nI (a + 1))) 6 (e + 1)) 6 e) 6 e (wk 8 (σ 8 e) (σ 8 (e + 1))), τ) := by
  refine z_MV.of pn_X10_execute (Nat.le_of_ble_eq_true rfl) (by simp [Value.category]) rfl ?_
  show z_V _ _ _ _ _ _ _ _ _ [_, _, _, _, _, _] _ _
  refine z_aload_n dX10_execute_0 rfl rfl ?_
  refine z_getR dX10_execute_1 fl_X10_19 rfl rfl rfl ?_
  refine z_dup dX10_execute_4 rfl ?_
  refine z_getI dX10_execute_5 fl_X10_148 rfl rfl ha ?_
  refine z_iconst (v := 1) dX10_execute_8 (by decide) ?_
  refine z_iadd dX10_execute_9 (nI_1 _) ?_
  refine z_putI dX10_execute_10 fl_X10_148 rfl rfl (Or.inl rfl) rfl ?_
  refine z_iload_n dX10_execute_13 rfl rfl ?_
  refine z_tableIn (off := 88) (tgt := 102) dX10_execute_14 (by decide) (by decide) (by decide) (by decide) ?_
  refine z_aload_n dX10_execute_102 rfl rfl ?_
  refine z_getR dX10_execute_103 fl_X10_19 rfl rfl rfl ?_
  refine z_cV1 dX10_execute_106 ml_X10_274 (sp_pop (e := e + 1) (Or.inl rfl) (show _ = nI (e + 2) by rw [z_up_o _ _ (Or.inr (by decide))]; exact he) (by omega)) rfl ⟨by decide, rfl⟩ rfl rfl (Nat.le_of_ble_eq_true rfl) ?_
  refine z_istore_n dX10_execute_109 rfl (by decide) ?_
  show z_V _ _ _ _ _ _ _ _ _ [_, _, _, _, _, _] _ _
  refine z_aload_n dX10_execute_110 rfl rfl ?_
  refine z_getR dX10_execute_111 fl_X10_19 rfl rfl rfl ?_
  refine z_cV1 dX10_execute_114 ml_X10_274 (sp_pop (e := e) (Or.inl rfl) (show _ = nI (e + 1) by simp [z_up]) (by omega)) rfl ⟨by decide, rfl⟩ rfl rfl (Nat.le_of_ble_eq_true rfl) ?_
  refine z_istore dX10_execute_117 (by decide) ?_
  show z_V _ _ _ _ _ _ _ _ _ [_, _, _, _, _, _] _ _
  refine z_aload_n dX10_execute_119 rfl rfl ?_
  refine z_getR dX10_execute_120 fl_X10_19 rfl rfl rfl ?_
  refine z_iload_n dX10_execute_123 rfl rfl ?_
  refine z_iload dX10_execute_124 rfl ?_
  refine z_iload_n dX10_execute_126 rfl rfl ?_
  refine z_cS1 dX10_execute_127 ml_X10_277 (sp_result (by decide) (by decide)) rfl rfl (Nat.le_of_ble_eq_true rfl) ?_
  refine z_cV0 dX10_execute_130 ml_X10_271 (sp_push (e := e) (Or.inl rfl) (show _ = nI e by simp [z_up]) (by omega)) rfl ⟨by decide, rfl⟩ rfl rfl (Nat.le_of_ble_eq_true rfl) ?_
  refine z_iconst (v := 0) dX10_execute_133 (by decide) ?_
  exact z_zret dX10_execute_134 rfl (by first | exact Or.inl rfl | exact Or.inr rfl) rfl rfl
set_option maxRecDepth 100000 in
set_option maxHeartbeats 4000000 in
theorem sp_ex12 {d : Nat} {σ : Nat → Nat → Int32} {τ : Nat → Nat → Int64} {a e : Nat} {x : Int32} (ha : σ 6 3 = nI a) (he : σ 6 2 = nI (e + 1)) (he6 : e < 6) (hn : ∃ q, q < 30 ∧ σ 9 1 = nI q) : z_MV M_X10_execute (d + 3) 0 0 [.ref 0, .int (nI 12), .int x] (124, z_r0, σ, τ) (some (.int (0))) (124, z_r0, gvS (po (z_up σ 6 3 (nI (a + 1))) 6 e) (σ 8 e), τ) := by
  refine z_MV.of pn_X10_execute (Nat.le_of_ble_eq_true rfl) (by simp [Value.category]) rfl ?_
  show z_V _ _ _ _ _ _ _ _ _ [_, _, _, _, _, _] _ _
  refine z_aload_n dX10_execute_0 rfl rfl ?_
  refine z_getR dX10_execute_1 fl_X10_19 rfl rfl rfl ?_
  refine z_dup dX10_execute_4 rfl ?_
  refine z_getI dX10_execute_5 fl_X10_148 rfl rfl ha ?_
  refine z_iconst (v := 1) dX10_execute_8 (by decide) ?_
  refine z_iadd dX10_execute_9 (nI_1 _) ?_
  refine z_putI dX10_execute_10 fl_X10_148 rfl rfl (Or.inl rfl) rfl ?_
  refine z_iload_n dX10_execute_13 rfl rfl ?_
  refine z_tableIn (off := 121) (tgt := 135) dX10_execute_14 (by decide) (by decide) (by decide) (by decide) ?_
  refine z_aload_n dX10_execute_135 rfl rfl ?_
  refine z_getR dX10_execute_136 fl_X10_26 rfl rfl rfl ?_
  refine z_aload_n dX10_execute_139 rfl rfl ?_
  refine z_getR dX10_execute_140 fl_X10_19 rfl rfl rfl ?_
  refine z_cV1 dX10_execute_143 ml_X10_274 (sp_pop (e := e) (Or.inl rfl) (show _ = nI (e + 1) by rw [z_up_o _ _ (Or.inr (by decide))]; exact he) he6) rfl ⟨by decide, rfl⟩ rfl rfl (Nat.le_of_ble_eq_true rfl) ?_
  refine z_cV0 dX10_execute_146 ml_X10_281 (sp_giveS (by obtain ⟨q, h1, h2⟩ := hn; exact ⟨q, h1, by rw [z_up_o _ _ (Or.inl (by decide)), z_up_o _ _ (Or.inl (by decide))]; exact h2⟩)) rfl ⟨by decide, rfl⟩ rfl rfl (Nat.le_of_ble_eq_true rfl) ?_
  refine z_iconst (v := 0) dX10_execute_149 (by decide) ?_
  exact z_zret dX10_execute_150 rfl (by first | exact Or.inl rfl | exact Or.inr rfl) rfl rfl
set_option maxRecDepth 100000 in
set_option maxHeartbeats 4000000 in
theorem sp_ex13 {d : Nat} {σ : Nat → Nat → Int32} {τ : Nat → Nat → Int64} {a e : Nat} {x : Int32} (ha : σ 6 3 = nI a) : z_MV M_X10_execute (d + 3) 0 0 [.ref 0, .int (nI 13), .int x] (124, z_r0, σ, τ) (some (.int (1))) (124, z_r0, z_up (z_up σ 6 3 (nI (a + 1))) 6 3 x, τ) := by
  refine z_MV.of pn_X10_execute (Nat.le_of_ble_eq_true rfl) (by simp [Value.category]) rfl ?_
  show z_V _ _ _ _ _ _ _ _ _ [_, _, _, _, _, _] _ _
  refine z_aload_n dX10_execute_0 rfl rfl ?_
  refine z_getR dX10_execute_1 fl_X10_19 rfl rfl rfl ?_
  refine z_dup dX10_execute_4 rfl ?_
  refine z_getI dX10_execute_5 fl_X10_148 rfl rfl ha ?_
  refine z_iconst (v := 1) dX10_execute_8 (by decide) ?_
  refine z_iadd dX10_execute_9 (nI_1 _) ?_
  refine z_putI dX10_execute_10 fl_X10_148 rfl rfl (Or.inl rfl) rfl ?_
  refine z_iload_n dX10_execute_13 rfl rfl ?_
  refine z_tableIn (off := 137) (tgt := 151) dX10_execute_14 (by decide) (by decide) (by decide) (by decide) ?_
  refine z_aload_n dX10_execute_151 rfl rfl ?_
  refine z_getR dX10_execute_152 fl_X10_19 rfl rfl rfl ?_
  refine z_iload_n dX10_execute_155 rfl rfl ?_
  refine z_putI dX10_execute_156 fl_X10_148 rfl rfl (Or.inl rfl) rfl ?_
  refine z_iconst (v := 1) dX10_execute_159 (by decide) ?_
  exact z_zret dX10_execute_160 rfl (by first | exact Or.inl rfl | exact Or.inr rfl) rfl rfl
set_option maxRecDepth 100000 in
set_option maxHeartbeats 4000000 in
theorem sp_ex14 {d : Nat} {σ : Nat → Nat → Int32} {τ : Nat → Nat → Int64} {a e : Nat} {x : Int32} (ha : σ 6 3 = nI a) (he : σ 6 2 = nI (e + 1)) (he6 : e < 6) : z_MV M_X10_execute (d + 3) 0 0 [.ref 0, .int (nI 14), .int x] (124, z_r0, σ, τ) (some (.int (b2i (σ 8 e ≠ 0)))) (124, z_r0, z_up (po (z_up σ 6 3 (nI (a + 1))) 6 e) 6 3 (if σ 8 e = 0 then nI (a + 1) else x), τ) := by
  refine z_MV.of pn_X10_execute (Nat.le_of_ble_eq_true rfl) (by simp [Value.category]) rfl ?_
  show z_V _ _ _ _ _ _ _ _ _ [_, _, _, _, _, _] _ _
  refine z_aload_n dX10_execute_0 rfl rfl ?_
  refine z_getR dX10_execute_1 fl_X10_19 rfl rfl rfl ?_
  refine z_dup dX10_execute_4 rfl ?_
  refine z_getI dX10_execute_5 fl_X10_148 rfl rfl ha ?_
  refine z_iconst (v := 1) dX10_execute_8 (by decide) ?_
  refine z_iadd dX10_execute_9 (nI_1 _) ?_
  refine z_putI dX10_execute_10 fl_X10_148 rfl rfl (Or.inl rfl) rfl ?_
  refine z_iload_n dX10_execute_13 rfl rfl ?_
  refine z_tableIn (off := 147) (tgt := 161) dX10_execute_14 (by decide) (by decide) (by decide) (by decide) ?_
  refine z_aload_n dX10_execute_161 rfl rfl ?_
  refine z_getR dX10_execute_162 fl_X10_19 rfl rfl rfl ?_
  refine z_cV1 dX10_execute_165 ml_X10_274 (sp_pop (e := e) (Or.inl rfl) (show _ = nI (e + 1) by rw [z_up_o _ _ (Or.inr (by decide))]; exact he) he6) rfl ⟨by decide, rfl⟩ rfl rfl (Nat.le_of_ble_eq_true rfl) ?_
  rw [show z_up σ 6 3 (nI (a + 1)) (6 + 2) e = σ 8 e from congrFun (z_up_ne _ _ _ (by decide)) e]
  refine z_if_eq (tgt := 175) dX10_execute_168 (by decide) (fun c168 => ?_) (fun c168 => ?_)
  · refine z_iconst (v := 0) dX10_execute_175 (by decide) ?_
    refine z_istore dX10_execute_176 (by decide) ?_
    show z_V _ _ _ _ _ _ _ _ _ [_, _, _, _, _, _] _ _
    refine z_aload_n dX10_execute_178 rfl rfl ?_
    refine z_getR dX10_execute_179 fl_X10_19 rfl rfl rfl ?_
    refine z_iload dX10_execute_182 rfl ?_
    refine z_if_eq (tgt := 191) dX10_execute_184 (by decide) (fun _ => ?_) (fun c_ => absurd (rfl) c_)
    refine z_aload_n dX10_execute_191 rfl rfl ?_
    refine z_getR dX10_execute_192 fl_X10_19 rfl rfl rfl ?_
    refine z_getI dX10_execute_195 fl_X10_148 rfl rfl (show _ = nI (a + 1) by simp [z_up]) ?_
    refine z_putI dX10_execute_198 fl_X10_148 rfl rfl (Or.inl rfl) rfl ?_
    refine z_iload dX10_execute_201 rfl ?_
    exact z_zret dX10_execute_203 rfl (by first | exact Or.inl rfl | exact Or.inr rfl) (by simp [b2i, c168]) (by simp [c168, po])
  · refine z_iconst (v := 1) dX10_execute_171 (by decide) ?_
    refine z_goto (tgt := 176) dX10_execute_172 (by decide) ?_
    refine z_istore dX10_execute_176 (by decide) ?_
    show z_V _ _ _ _ _ _ _ _ _ [_, _, _, _, _, _] _ _
    refine z_aload_n dX10_execute_178 rfl rfl ?_
    refine z_getR dX10_execute_179 fl_X10_19 rfl rfl rfl ?_
    refine z_iload dX10_execute_182 rfl ?_
    refine z_if_eq (tgt := 191) dX10_execute_184 (by decide) (fun c_ => absurd c_ (by decide)) (fun _ => ?_)
    refine z_iload_n dX10_execute_187 rfl rfl ?_
    refine z_goto (tgt := 198) dX10_execute_188 (by decide) ?_
    refine z_putI dX10_execute_198 fl_X10_148 rfl rfl (Or.inl rfl) rfl ?_
    refine z_iload dX10_execute_201 rfl ?_
    exact z_zret dX10_execute_203 rfl (by first | exact Or.inl rfl | exact Or.inr rfl) (by simp [b2i, c168]) (by simp [c168, po])
set_option maxRecDepth 100000 in
set_option maxHeartbeats 4000000 in
theorem sp_ex15 {d : Nat} {σ : Nat → Nat → Int32} {τ : Nat → Nat → Int64} {a e : Nat} {x : Int32} (ha : σ 6 3 = nI a) (hr0 : σ 16 2 = -1 ∨ ∃ p, p < 40 ∧ σ 16 2 = nI p) : z_MV M_X10_execute (d + 3) 0 0 [.ref 0, .int (nI 15), .int x] (124, z_r0, σ, τ) (some (.int (0))) (124, z_r0, hlS (z_up σ 6 3 (nI (a + 1))), τ) := by
  refine z_MV.of pn_X10_execute (Nat.le_of_ble_eq_true rfl) (by simp [Value.category]) rfl ?_
  show z_V _ _ _ _ _ _ _ _ _ [_, _, _, _, _, _] _ _
  refine z_aload_n dX10_execute_0 rfl rfl ?_
  refine z_getR dX10_execute_1 fl_X10_19 rfl rfl rfl ?_
  refine z_dup dX10_execute_4 rfl ?_
  refine z_getI dX10_execute_5 fl_X10_148 rfl rfl ha ?_
  refine z_iconst (v := 1) dX10_execute_8 (by decide) ?_
  refine z_iadd dX10_execute_9 (nI_1 _) ?_
  refine z_putI dX10_execute_10 fl_X10_148 rfl rfl (Or.inl rfl) rfl ?_
  refine z_iload_n dX10_execute_13 rfl rfl ?_
  refine z_tableIn (off := 190) (tgt := 204) dX10_execute_14 (by decide) (by decide) (by decide) (by decide) ?_
  refine z_aload_n dX10_execute_204 rfl rfl ?_
  refine z_cV0 dX10_execute_205 ml_X10_284 (sp_halt (by rw [z_up_o _ _ (Or.inl (by decide))]; exact hr0)) rfl ⟨by decide, rfl⟩ rfl rfl (Nat.le_of_ble_eq_true rfl) ?_
  refine z_iconst (v := 0) dX10_execute_208 (by decide) ?_
  exact z_zret dX10_execute_209 rfl (by first | exact Or.inl rfl | exact Or.inr rfl) rfl rfl
set_option maxRecDepth 100000 in
set_option maxHeartbeats 4000000 in
theorem sp_ex1 {d : Nat} {σ : Nat → Nat → Int32} {τ : Nat → Nat → Int64} {a e : Nat} {x : Int32} (ha : σ 6 3 = nI a) {l : Nat} (he : σ 6 2 = nI e) (he6 : e < 6) (hl : l < 6) : z_MV M_X10_execute (d + 3) 0 0 [.ref 0, .int (nI 1), .int (nI l)] (124, z_r0, σ, τ) (some (.int (0))) (124, z_r0, pu (z_up σ 6 3 (nI (a + 1))) 6 e (σ 7 l), τ) := by
  refine z_MV.of pn_X10_execute (Nat.le_of_ble_eq_true rfl) (by simp [Value.category]) rfl ?_
  show z_V _ _ _ _ _ _ _ _ _ [_, _, _, _, _, _] _ _
  refine z_aload_n dX10_execute_0 rfl rfl ?_
  refine z_getR dX10_execute_1 fl_X10_19 rfl rfl rfl ?_
  refine z_dup dX10_execute_4 rfl ?_
  refine z_getI dX10_execute_5 fl_X10_148 rfl rfl ha ?_
  refine z_iconst (v := 1) dX10_execute_8 (by decide) ?_
  refine z_iadd dX10_execute_9 (nI_1 _) ?_
  refine z_putI dX10_execute_10 fl_X10_148 rfl rfl (Or.inl rfl) rfl ?_
  refine z_iload_n dX10_execute_13 rfl rfl ?_
  refine z_tableIn (off := 196) (tgt := 210) dX10_execute_14 (by decide) (by decide) (by decide) (by decide) ?_
  refine z_aload_n dX10_execute_210 rfl rfl ?_
  refine z_getR dX10_execute_211 fl_X10_19 rfl rfl rfl ?_
  refine z_iload_n dX10_execute_214 rfl rfl ?_
  refine z_iload_n dX10_execute_215 rfl rfl ?_
  refine z_cV0 dX10_execute_216 ml_X10_287 (sp_mv1 (Or.inl rfl) (show _ = nI e by rw [z_up_o _ _ (Or.inr (by decide))]; exact he) he6 hl) rfl ⟨by decide, rfl⟩ rfl rfl (Nat.le_of_ble_eq_true rfl) ?_
  refine z_iconst (v := 0) dX10_execute_219 (by decide) ?_
  exact z_zret dX10_execute_220 rfl (by first | exact Or.inl rfl | exact Or.inr rfl) rfl rfl
set_option maxRecDepth 100000 in
set_option maxHeartbeats 4000000 in
theorem sp_ex2 {d : Nat} {σ : Nat → Nat → Int32} {τ : Nat → Nat → Int64} {a e : Nat} {x : Int32} (ha : σ 6 3 = nI a) {l : Nat} (he : σ 6 2 = nI (e + 1)) (he6 : e < 6) (hl : l < 6) : z_MV M_X10_execute (d + 3) 0 0 [.ref 0, .int (nI 2), .int (nI l)] (124, z_r0, σ, τ) (some (.int (0))) (124, z_r0, z_up (po (z_up σ 6 3 (nI (a + 1))) 6 e) 7 l (σ 8 e), τ) := by
  refine z_MV.of pn_X10_execute (Nat.le_of_ble_eq_true rfl) (by simp [Value.category]) rfl ?_
  show z_V _ _ _ _ _ _ _ _ _ [_, _, _, _, _, _] _ _
  refine z_aload_n dX10_execute_0 rfl rfl ?_
  refine z_getR dX10_execute_1 fl_X10_19 rfl rfl rfl ?_
  refine z_dup dX10_execute_4 rfl ?_
  refine z_getI dX10_execute_5 fl_X10_148 rfl rfl ha ?_
  refine z_iconst (v := 1) dX10_execute_8 (by decide) ?_
  refine z_iadd dX10_execute_9 (nI_1 _) ?_
  refine z_putI dX10_execute_10 fl_X10_148 rfl rfl (Or.inl rfl) rfl ?_
  refine z_iload_n dX10_execute_13 rfl rfl ?_
  refine z_tableIn (off := 196) (tgt := 210) dX10_execute_14 (by decide) (by decide) (by decide) (by decide) ?_
  refine z_aload_n dX10_execute_210 rfl rfl ?_
  refine z_getR dX10_execute_211 fl_X10_19 rfl rfl rfl ?_
  refine z_iload_n dX10_execute_214 rfl rfl ?_
  refine z_iload_n dX10_execute_215 rfl rfl ?_
  refine z_cV0 dX10_execute_216 ml_X10_287 (sp_mv2 (Or.inl rfl) (show _ = nI (e + 1) by rw [z_up_o _ _ (Or.inr (by decide))]; exact he) he6 hl) rfl ⟨by decide, rfl⟩ rfl rfl (Nat.le_of_ble_eq_true rfl) ?_
  refine z_iconst (v := 0) dX10_execute_219 (by decide) ?_
  exact z_zret dX10_execute_220 rfl (by first | exact Or.inl rfl | exact Or.inr rfl) rfl rfl
set_option maxRecDepth 100000 in
set_option maxHeartbeats 4000000 in
theorem sp_ex9 {d : Nat} {σ : Nat → Nat → Int32} {τ : Nat → Nat → Int64} {a e : Nat} {x : Int32} (ha : σ 6 3 = nI a) (he : σ 6 2 = nI (e + 1)) (he6 : e + 1 < 6) : z_MV M_X10_execute (d + 3) 0 0 [.ref 0, .int (nI 9), .int x] (124, z_r0, σ, τ) (some (.int (0))) (124, z_r0, pu (pu (po (z_up σ 6 3 (nI (a + 1))) 6 e) 6 e (σ 8 e)) 6 (e + 1) (σ 8 e), τ) := by
  refine z_MV.of pn_X10_execute (Nat.le_of_ble_eq_true rfl) (by simp [Value.category]) rfl ?_
  show z_V _ _ _ _ _ _ _ _ _ [_, _, _, _, _, _] _ _
  refine z_aload_n dX10_execute_0 rfl rfl ?_
  refine z_getR dX10_execute_1 fl_X10_19 rfl rfl rfl ?_
  refine z_dup dX10_execute_4 rfl ?_
  refine z_getI dX10_execute_5 fl_X10_148 rfl rfl ha ?_
  refine z_iconst (v := 1) dX10_execute_8 (by decide) ?_
  refine z_iadd dX10_execute_9 (nI_1 _) ?_
  refine z_putI dX10_execute_10 fl_X10_148 rfl rfl (Or.inl rfl) rfl ?_
  refine z_iload_n dX10_execute_13 rfl rfl ?_
  refine z_tableIn (off := 196) (tgt := 210) dX10_execute_14 (by decide) (by decide) (by decide) (by decide) ?_
  refine z_aload_n dX10_execute_210 rfl rfl ?_
  refine z_getR dX10_execute_211 fl_X10_19 rfl rfl rfl ?_
  refine z_iload_n dX10_execute_214 rfl rfl ?_
  refine z_iload_n dX10_execute_215 rfl rfl ?_
  refine z_cV0 dX10_execute_216 ml_X10_287 (sp_mv9 (Or.inl rfl) (show _ = nI (e + 1) by rw [z_up_o _ _ (Or.inr (by decide))]; exact he) he6) rfl ⟨by decide, rfl⟩ rfl rfl (Nat.le_of_ble_eq_true rfl) ?_
  refine z_iconst (v := 0) dX10_execute_219 (by decide) ?_
  exact z_zret dX10_execute_220 rfl (by first | exact Or.inl rfl | exact Or.inr rfl) rfl rfl
set_option maxRecDepth 100000 in
set_option maxHeartbeats 4000000 in
theorem sp_ex10 {d : Nat} {σ : Nat → Nat → Int32} {τ : Nat → Nat → Int64} {a e : Nat} {x : Int32} (ha : σ 6 3 = nI a) (he : σ 6 2 = nI (e + 1)) (he6 : e < 6) : z_MV M_X10_execute (d + 3) 0 0 [.ref 0, .int (nI 10), .int x] (124, z_r0, σ, τ) (some (.int (0))) (124, z_r0, po (z_up σ 6 3 (nI (a + 1))) 6 e, τ) := by
  refine z_MV.of pn_X10_execute (Nat.le_of_ble_eq_true rfl) (by simp [Value.category]) rfl ?_
  show z_V _ _ _ _ _ _ _ _ _ [_, _, _, _, _, _] _ _
  refine z_aload_n dX10_execute_0 rfl rfl ?_
  refine z_getR dX10_execute_1 fl_X10_19 rfl rfl rfl ?_
  refine z_dup dX10_execute_4 rfl ?_
  refine z_getI dX10_execute_5 fl_X10_148 rfl rfl ha ?_
  refine z_iconst (v := 1) dX10_execute_8 (by decide) ?_
  refine z_iadd dX10_execute_9 (nI_1 _) ?_
  refine z_putI dX10_execute_10 fl_X10_148 rfl rfl (Or.inl rfl) rfl ?_
  refine z_iload_n dX10_execute_13 rfl rfl ?_
  refine z_tableIn (off := 196) (tgt := 210) dX10_execute_14 (by decide) (by decide) (by decide) (by decide) ?_
  refine z_aload_n dX10_execute_210 rfl rfl ?_
  refine z_getR dX10_execute_211 fl_X10_19 rfl rfl rfl ?_
  refine z_iload_n dX10_execute_214 rfl rfl ?_
  refine z_iload_n dX10_execute_215 rfl rfl ?_
  refine z_cV0 dX10_execute_216 ml_X10_287 (sp_mv10 (Or.inl rfl) (show _ = nI (e + 1) by rw [z_up_o _ _ (Or.inr (by decide))]; exact he) he6) rfl ⟨by decide, rfl⟩ rfl rfl (Nat.le_of_ble_eq_true rfl) ?_
  refine z_iconst (v := 0) dX10_execute_219 (by decide) ?_
  exact z_zret dX10_execute_220 rfl (by first | exact Or.inl rfl | exact Or.inr rfl) rfl rfl
set_option maxRecDepth 100000 in
set_option maxHeartbeats 4000000 in
theorem sp_ex11 {d : Nat} {σ : Nat → Nat → Int32} {τ : Nat → Nat → Int64} {a e : Nat} {x : Int32} (ha : σ 6 3 = nI a) (he : σ 6 2 = nI (e + 2)) (he6 : e + 1 < 6) : z_MV M_X10_execute (d + 3) 0 0 [.ref 0, .int (nI 11), .int x] (124, z_r0, σ, τ) (some (.int (0))) (124, z_r0, pu (pu (po (po (z_up σ 6 3 (nI (a + 1))) 6 (e + 1)) 6 e) 6 e (σ 8 (e + 1))) 6 (e + 1) (σ 8 e), τ) := by
  refine z_MV.of pn_X10_execute (Nat.le_of_ble_eq_true rfl) (by simp [Value.category]) rfl ?_
  show z_V _ _ _ _ _ _ _ _ _ [_, _, _, _, _, _] _ _
  refine z_aload_n dX10_execute_0 rfl rfl ?_
  refine z_getR dX10_execute_1 fl_X10_19 rfl rfl rfl ?_
  refine z_dup dX10_execute_4 rfl ?_
  refine z_getI dX10_execute_5 fl_X10_148 rfl rfl ha ?_
  refine z_iconst (v := 1) dX10_execute_8 (by decide) ?_
  refine z_iadd dX10_execute_9 (nI_1 _) ?_
  refine z_putI dX10_execute_10 fl_X10_148 rfl rfl (Or.inl rfl) rfl ?_
  refine z_iload_n dX10_execute_13 rfl rfl ?_
  refine z_tableIn (off := 196) (tgt := 210) dX10_execute_14 (by decide) (by decide) (by decide) (by decide) ?_
  refine z_aload_n dX10_execute_210 rfl rfl ?_
  refine z_getR dX10_execute_211 fl_X10_19 rfl rfl rfl ?_
  refine z_iload_n dX10_execute_214 rfl rfl ?_
  refine z_iload_n dX10_execute_215 rfl rfl ?_
  refine z_cV0 dX10_execute_216 ml_X10_287 (sp_mv11 (Or.inl rfl) (show _ = nI (e + 2) by rw [z_up_o _ _ (Or.inr (by decide))]; exact he) he6) rfl ⟨by decide, rfl⟩ rfl rfl (Nat.le_of_ble_eq_true rfl) ?_
  refine z_iconst (v := 0) dX10_execute_219 (by decide) ?_
  exact z_zret dX10_execute_220 rfl (by first | exact Or.inl rfl | exact Or.inr rfl) rfl rfl
def inT (σ1 : Nat → Nat → Int32) : Nat → Nat → Int32 := z_up (z_up σ1 11 0 (σ1 11 0 + 1)) 0 12 (-1)
set_option maxRecDepth 100000 in
set_option maxHeartbeats 4000000 in
theorem sp_int_rec {d : Nat} {σ : Nat → Nat → Int32} {τ : Nat → Nat → Int64} {a : Nat} {j : Int32} {σ1 : Nat → Nat → Int32} (ha : σ 6 3 = nI a) (hl : a < 40) (hex : z_MV M_X10_execute (d + 3) 0 0 [.ref 0, .int (σ 2 a), .int (σ 3 a)] (124, z_r0, σ, τ) (some (.int j)) (124, z_r0, σ1, τ)) {e : Nat} (hrn : ¬ σ1 16 2 = -1) (he : σ1 16 3 = nI e) (he30 : e < 30) (hj : j = 0 ∨ j = 1) : z_MV M_X10_interpret (d + 4) 0 0 [.ref 0] (124, z_r0, σ, τ) (none) (124, z_r0, ntS (inT σ1) e a j, τ) := by
  refine z_MV.of pn_X10_interpret (Nat.le_of_ble_eq_true rfl) (by simp [Value.category]) rfl ?_
  show z_V _ _ _ _ _ _ _ _ _ [_, _, _] _ _
  refine z_aload_n dX10_interpret_0 rfl rfl ?_
  refine z_getR dX10_interpret_1 fl_X10_19 rfl rfl rfl ?_
  refine z_getI dX10_interpret_4 fl_X10_148 rfl rfl ha ?_
  refine z_istore_n dX10_interpret_7 rfl (by decide) ?_
  show z_V _ _ _ _ _ _ _ _ _ [_, _, _] _ _
  refine z_aload_n dX10_interpret_8 rfl rfl ?_
  refine z_aload_n dX10_interpret_9 rfl rfl ?_
  refine z_getR dX10_interpret_10 fl_X10_12 rfl rfl rfl ?_
  refine z_getR dX10_interpret_13 fl_X10_255 rfl rfl rfl ?_
  refine z_iload_n dX10_interpret_16 rfl rfl ?_
  refine z_iald dX10_interpret_17 rfl rfl (by omega) rfl ?_
  refine z_aload_n dX10_interpret_18 rfl rfl ?_
  refine z_getR dX10_interpret_19 fl_X10_12 rfl rfl rfl ?_
  refine z_getR dX10_interpret_22 fl_X10_258 rfl rfl rfl ?_
  refine z_iload_n dX10_interpret_25 rfl rfl ?_
  refine z_iald dX10_interpret_26 rfl rfl (by omega) rfl ?_
  refine z_cV1 dX10_interpret_27 ml_X10_261 (hex) rfl ⟨by decide, rfl⟩ rfl rfl (Nat.le_of_ble_eq_true rfl) ?_
  refine z_istore_n dX10_interpret_30 rfl (by decide) ?_
  show z_V _ _ _ _ _ _ _ _ _ [_, _, _] _ _
  refine z_aload_n dX10_interpret_31 rfl rfl ?_
  refine z_getR dX10_interpret_32 fl_X10_33 rfl rfl rfl ?_
  refine z_dup dX10_interpret_35 rfl ?_
  refine z_getI dX10_interpret_36 fl_X10_151 rfl rfl rfl ?_
  refine z_iconst (v := 1) dX10_interpret_39 (by decide) ?_
  refine z_iadd dX10_interpret_40 rfl ?_
  refine z_putI dX10_interpret_41 fl_X10_151 rfl rfl (Or.inl rfl) rfl ?_
  refine z_aload_n dX10_interpret_44 rfl rfl ?_
  refine z_iconst (v := (-1)) dX10_interpret_45 (by decide) ?_
  refine z_putI dX10_interpret_46 fl_X10_65 rfl rfl (Or.inl rfl) rfl ?_
  refine z_aload_n dX10_interpret_49 rfl rfl ?_
  refine z_getR dX10_interpret_50 fl_X10_47 rfl rfl rfl ?_
  refine z_cV1 dX10_interpret_53 ml_X10_166 (sp_isOn (σ := inT σ1)) rfl ⟨by decide, rfl⟩ rfl rfl (Nat.le_of_ble_eq_true rfl) ?_
  refine z_if_eq (tgt := 71) dX10_interpret_56 (by decide) (fun c56 => ?_) (fun c56 => ?_)
  · rw [b2i_t (show inT σ1 16 2 ≠ -1 by simp [inT, z_up, hrn])] at c56
    exact absurd c56 (by decide)
  · refine z_aload_n dX10_interpret_59 rfl rfl ?_
    refine z_getR dX10_interpret_60 fl_X10_47 rfl rfl rfl ?_
    refine z_iload_n dX10_interpret_63 rfl rfl ?_
    refine z_iload_n dX10_interpret_64 rfl rfl ?_
    refine z_cV0 dX10_interpret_65 ml_X10_264 (sp_note (e := e) (show _ = nI e by simp [inT, z_up, he]) he30 hj) rfl ⟨by decide, rfl⟩ rfl rfl (Nat.le_of_ble_eq_true rfl) ?_
    refine z_goto (tgt := 104) dX10_interpret_68 (by decide) ?_
    exact z_vret dX10_interpret_104 rfl rfl rfl
set_option maxRecDepth 100000 in
set_option maxHeartbeats 4000000 in
theorem sp_int_no {d : Nat} {σ : Nat → Nat → Int32} {τ : Nat → Nat → Int64} {a : Nat} {j : Int32} {σ1 : Nat → Nat → Int32} (ha : σ 6 3 = nI a) (hl : a < 40) (hex : z_MV M_X10_execute (d + 3) 0 0 [.ref 0, .int (σ 2 a), .int (σ 3 a)] (124, z_r0, σ, τ) (some (.int j)) (124, z_r0, σ1, τ)) (hrn : σ1 16 2 = -1) (hno : σ1 0 11 = 0 ∨ j = 0 ∨ ¬ σ1 6 3 ≤ nI a) : z_MV M_X10_interpret (d + 4) 0 0 [.ref 0] (124, z_r0, σ, τ) (none) (124, z_r0, inT σ1, τ) := by
  refine z_MV.of pn_X10_interpret (Nat.le_of_ble_eq_true rfl) (by simp [Value.category]) rfl ?_
  show z_V _ _ _ _ _ _ _ _ _ [_, _, _] _ _
  refine z_aload_n dX10_interpret_0 rfl rfl ?_
  refine z_getR dX10_interpret_1 fl_X10_19 rfl rfl rfl ?_
  refine z_getI dX10_interpret_4 fl_X10_148 rfl rfl ha ?_
  refine z_istore_n dX10_interpret_7 rfl (by decide) ?_
  show z_V _ _ _ _ _ _ _ _ _ [_, _, _] _ _
  refine z_aload_n dX10_interpret_8 rfl rfl ?_
  refine z_aload_n dX10_interpret_9 rfl rfl ?_
  refine z_getR dX10_interpret_10 fl_X10_12 rfl rfl rfl ?_
  refine z_getR dX10_interpret_13 fl_X10_255 rfl rfl rfl ?_
  refine z_iload_n dX10_interpret_16 rfl rfl ?_
  refine z_iald dX10_interpret_17 rfl rfl (by omega) rfl ?_
  refine z_aload_n dX10_interpret_18 rfl rfl ?_
  refine z_getR dX10_interpret_19 fl_X10_12 rfl rfl rfl ?_
  refine z_getR dX10_interpret_22 fl_X10_258 rfl rfl rfl ?_
  refine z_iload_n dX10_interpret_25 rfl rfl ?_
  refine z_iald dX10_interpret_26 rfl rfl (by omega) rfl ?_
  refine z_cV1 dX10_interpret_27 ml_X10_261 (hex) rfl ⟨by decide, rfl⟩ rfl rfl (Nat.le_of_ble_eq_true rfl) ?_
  refine z_istore_n dX10_interpret_30 rfl (by decide) ?_
  show z_V _ _ _ _ _ _ _ _ _ [_, _, _] _ _
  refine z_aload_n dX10_interpret_31 rfl rfl ?_
  refine z_getR dX10_interpret_32 fl_X10_33 rfl rfl rfl ?_
  refine z_dup dX10_interpret_35 rfl ?_
  refine z_getI dX10_interpret_36 fl_X10_151 rfl rfl rfl ?_
  refine z_iconst (v := 1) dX10_interpret_39 (by decide) ?_
  refine z_iadd dX10_interpret_40 rfl ?_
  refine z_putI dX10_interpret_41 fl_X10_151 rfl rfl (Or.inl rfl) rfl ?_
  refine z_aload_n dX10_interpret_44 rfl rfl ?_
  refine z_iconst (v := (-1)) dX10_interpret_45 (by decide) ?_
  refine z_putI dX10_interpret_46 fl_X10_65 rfl rfl (Or.inl rfl) rfl ?_
  refine z_aload_n dX10_interpret_49 rfl rfl ?_
  refine z_getR dX10_interpret_50 fl_X10_47 rfl rfl rfl ?_
  refine z_cV1 dX10_interpret_53 ml_X10_166 (sp_isOn (σ := inT σ1)) rfl ⟨by decide, rfl⟩ rfl rfl (Nat.le_of_ble_eq_true rfl) ?_
  refine z_if_eq (tgt := 71) dX10_interpret_56 (by decide) (fun c56 => ?_) (fun c56 => ?_)
  · refine z_aload_n dX10_interpret_71 rfl rfl ?_
    refine z_getI dX10_interpret_72 fl_X10_109 rfl rfl (show _ = σ1 0 11 by simp [inT, z_up]) ?_
    refine z_if_eq (tgt := 104) dX10_interpret_75 (by decide) (fun c75 => ?_) (fun c75 => ?_)
    · exact z_vret dX10_interpret_104 rfl rfl rfl
    · refine z_iload_n dX10_interpret_78 rfl rfl ?_
      refine z_if_eq (tgt := 104) dX10_interpret_79 (by decide) (fun c79 => ?_) (fun c79 => ?_)
      · exact z_vret dX10_interpret_104 rfl rfl rfl
      · refine z_aload_n dX10_interpret_82 rfl rfl ?_
        refine z_getR dX10_interpret_83 fl_X10_19 rfl rfl rfl ?_
        refine z_getI dX10_interpret_86 fl_X10_148 rfl rfl (show _ = σ1 6 3 by simp [inT, z_up]) ?_
        refine z_iload_n dX10_interpret_89 rfl rfl ?_
        refine z_icmp_gt (tgt := 104) dX10_interpret_90 (by decide) (fun c90 => ?_) (fun c90 => ?_)
        · exact z_vret dX10_interpret_104 rfl rfl rfl
        · exact absurd hno (by simp_all)
  · rw [b2i_f (show ¬ inT σ1 16 2 ≠ -1 from fun z => z (by simp [inT, z_up, hrn]))] at c56
    exact absurd rfl c56
set_option maxRecDepth 100000 in
set_option maxHeartbeats 4000000 in
theorem sp_int_hot {d : Nat} {σ : Nat → Nat → Int32} {τ : Nat → Nat → Int64} {a : Nat} {j : Int32} {σ1 : Nat → Nat → Int32} (ha : σ 6 3 = nI a) (hl : a < 40) (hex : z_MV M_X10_execute (d + 3) 0 0 [.ref 0, .int (σ 2 a), .int (σ 3 a)] (124, z_r0, σ, τ) (some (.int j)) (124, z_r0, σ1, τ)) (hrn : σ1 16 2 = -1) {q : Nat} (hti : ¬ σ1 0 11 = 0) (hjj : ¬ j = 0) (hq : σ1 6 3 = nI q) (hqa : q ≤ a) : z_MV M_X10_interpret (d + 4) 0 0 [.ref 0] (124, z_r0, σ, τ) (none) (124, z_r0, cjS (inT σ1) q, τ) := by
  refine z_MV.of pn_X10_interpret (Nat.le_of_ble_eq_true rfl) (by simp [Value.category]) rfl ?_
  show z_V _ _ _ _ _ _ _ _ _ [_, _, _] _ _
  refine z_aload_n dX10_interpret_0 rfl rfl ?_
  refine z_getR dX10_interpret_1 fl_X10_19 rfl rfl rfl ?_
  refine z_getI dX10_interpret_4 fl_X10_148 rfl rfl ha ?_
  refine z_istore_n dX10_interpret_7 rfl (by decide) ?_
  show z_V _ _ _ _ _ _ _ _ _ [_, _, _] _ _
  refine z_aload_n dX10_interpret_8 rfl rfl ?_
  refine z_aload_n dX10_interpret_9 rfl rfl ?_
  refine z_getR dX10_interpret_10 fl_X10_12 rfl rfl rfl ?_
  refine z_getR dX10_interpret_13 fl_X10_255 rfl rfl rfl ?_
  refine z_iload_n dX10_interpret_16 rfl rfl ?_
  refine z_iald dX10_interpret_17 rfl rfl (by omega) rfl ?_
  refine z_aload_n dX10_interpret_18 rfl rfl ?_
  refine z_getR dX10_interpret_19 fl_X10_12 rfl rfl rfl ?_
  refine z_getR dX10_interpret_22 fl_X10_258 rfl rfl rfl ?_
  refine z_iload_n dX10_interpret_25 rfl rfl ?_
  refine z_iald dX10_interpret_26 rfl rfl (by omega) rfl ?_
  refine z_cV1 dX10_interpret_27 ml_X10_261 (hex) rfl ⟨by decide, rfl⟩ rfl rfl (Nat.le_of_ble_eq_true rfl) ?_
  refine z_istore_n dX10_interpret_30 rfl (by decide) ?_
  show z_V _ _ _ _ _ _ _ _ _ [_, _, _] _ _
  refine z_aload_n dX10_interpret_31 rfl rfl ?_
  refine z_getR dX10_interpret_32 fl_X10_33 rfl rfl rfl ?_
  refine z_dup dX10_interpret_35 rfl ?_
  refine z_getI dX10_interpret_36 fl_X10_151 rfl rfl rfl ?_
  refine z_iconst (v := 1) dX10_interpret_39 (by decide) ?_
  refine z_iadd dX10_interpret_40 rfl ?_
  refine z_putI dX10_interpret_41 fl_X10_151 rfl rfl (Or.inl rfl) rfl ?_
  refine z_aload_n dX10_interpret_44 rfl rfl ?_
  refine z_iconst (v := (-1)) dX10_interpret_45 (by decide) ?_
  refine z_putI dX10_interpret_46 fl_X10_65 rfl rfl (Or.inl rfl) rfl ?_
  refine z_aload_n dX10_interpret_49 rfl rfl ?_
  refine z_getR dX10_interpret_50 fl_X10_47 rfl rfl rfl ?_
  refine z_cV1 dX10_interpret_53 ml_X10_166 (sp_isOn (σ := inT σ1)) rfl ⟨by decide, rfl⟩ rfl rfl (Nat.le_of_ble_eq_true rfl) ?_
  refine z_if_eq (tgt := 71) dX10_interpret_56 (by decide) (fun c56 => ?_) (fun c56 => ?_)
  · refine z_aload_n dX10_interpret_71 rfl rfl ?_
    refine z_getI dX10_interpret_72 fl_X10_109 rfl rfl (show _ = σ1 0 11 by simp [inT, z_up]) ?_
    refine z_if_eq (tgt := 104) dX10_interpret_75 (by decide) (fun c_ => absurd c_ (hti)) (fun _ => ?_)
    refine z_iload_n dX10_interpret_78 rfl rfl ?_
    refine z_if_eq (tgt := 104) dX10_interpret_79 (by decide) (fun c_ => absurd c_ (hjj)) (fun _ => ?_)
    refine z_aload_n dX10_interpret_82 rfl rfl ?_
    refine z_getR dX10_interpret_83 fl_X10_19 rfl rfl rfl ?_
    refine z_getI dX10_interpret_86 fl_X10_148 rfl rfl (show _ = nI q by simp [inT, z_up, hq]) ?_
    refine z_iload_n dX10_interpret_89 rfl rfl ?_
    refine z_icmp_gt (tgt := 104) dX10_interpret_90 (by decide) (fun c_ => absurd c_ (fun z => absurd (nI_le hqa (by omega)) (Int32.not_le.mpr z))) (fun _ => ?_)
    refine z_aload_n dX10_interpret_93 rfl rfl ?_
    refine z_aload_n dX10_interpret_94 rfl rfl ?_
    refine z_getR dX10_interpret_95 fl_X10_19 rfl rfl rfl ?_
    refine z_getI dX10_interpret_98 fl_X10_148 rfl rfl (show _ = nI q by simp [inT, z_up, hq]) ?_
    refine z_cV0 dX10_interpret_101 ml_X10_268 (sp_countJumpTo (by omega)) rfl ⟨by decide, rfl⟩ rfl rfl (Nat.le_of_ble_eq_true rfl) ?_
    exact z_vret dX10_interpret_104 rfl rfl rfl
  · rw [b2i_f (show ¬ inT σ1 16 2 ≠ -1 from fun z => z (by simp [inT, z_up, hrn]))] at c56
    exact absurd rfl c56
