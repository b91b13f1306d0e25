/-! PART 31: takeTurn, keepTrace, step -/
def tlS (σ : Nat → Nat → Int32) (T : Nat) : Nat → Nat → Int32 := z_row σ (T + 5) (va_cpy (σ 7) (σ (T + 5)) 0 0 6)
theorem tlS_ne {σ : Nat → Nat → Int32} {T b : Nat} (h : b ≠ T + 5) : tlS σ T b = σ b := by simp [tlS, z_row, h]
def ttH (σ : Nat → Nat → Int32) (t n : Nat) : Nat → Nat → Int32 := if nI t = σ 0 12 then tlS σ (tr t) else z_up (hdS (tlS σ (tr t)) (tr t) n) 11 3 (tlS σ (tr t) 11 3 + nI n)
theorem ttH_ne {σ : Nat → Nat → Int32} {t n b : Nat} (h : b ≠ tr t + 5 ∧ b ≠ 11) : ttH σ t n b = σ b := by
  unfold ttH
  split
  · exact tlS_ne h.1
  · rw [z_up_ne _ _ _ h.2, hdS_ne _ _ _ h.1, tlS_ne h.1]
def ttS (σ : Nat → Nat → Int32) (t n m : Nat) : Nat → Nat → Int32 :=
  if (bdF (tr t) m 0 (ttH σ t n)).1 = 0 then z_up (z_up (bdF (tr t) m 0 (ttH σ t n)).2 11 2 ((bdF (tr t) m 0 (ttH σ t n)).2 11 2 + 1)) 0 12 (-1)
  else z_up (z_up (bdF (tr t) m 0 (ttH σ t n)).2 11 1 ((bdF (tr t) m 0 (ttH σ t n)).2 11 1 + 1)) 0 12 (nI t)
theorem bI_tt {σ : Nat → Nat → Int32} {t n m : Nat} (h : bI σ (tr t) m) : bI (ttH σ t n) (tr t) m := bI_eq (fun c _ hc => ttH_ne ⟨by omega, tr_ne' (by decide) c⟩) (by
  obtain ⟨e, h1, h2⟩ := h.2.2.1
  exact ⟨e, h1, by rw [ttH_ne ⟨tr_ne (by decide) 5, by decide⟩]; exact h2⟩) h
set_option maxRecDepth 100000 in
set_option maxHeartbeats 4000000 in
theorem sp_takeTurn {d : Nat} {σ : Nat → Nat → Int32} {τ : Nat → Nat → Int64} {t n m : Nat} (ht : t < 4) (hn : σ (tr t) 4 = nI n) (h30 : n ≤ 30) (hh : ∀ v, v < n → ∃ q, σ (tr t + 13) v = nI q ∧ okV σ (tr t) q) (hm : m ≤ 30) (hI : bI σ (tr t) m) : z_MV M_X10_takeTurn (d + 3) 0 0 [.ref 0, .int (nI t)] (124, z_r0, σ, τ) (none) (124, z_r0, ttS σ t n m, τ) := by
  refine z_MV.of pn_X10_takeTurn (Nat.le_of_ble_eq_true rfl) (by simp [Value.category]) rfl ?_
  show z_V _ _ _ _ _ _ _ _ _ [_, _, _, _] _ _
  have hk := tr_k ht
  have hr := tr_r ht
  refine z_aload_n dX10_takeTurn_0 rfl rfl ?_
  refine z_getR dX10_takeTurn_1 fl_X10_60 rfl rfl rfl ?_
  refine z_iload_n dX10_takeTurn_4 rfl rfl ?_
  refine z_aald dX10_takeTurn_5 rfl rfl (by omega) hr.1 ?_
  refine z_astore_n dX10_takeTurn_6 rfl (by decide) ?_
  show z_V _ _ _ _ _ _ _ _ _ [_, _, _, _] _ _
  refine z_aload_n dX10_takeTurn_7 rfl rfl ?_
  refine z_getR dX10_takeTurn_8 fl_X10_237 rfl hk.1 hr.2.1 ?_
  refine z_aload_n dX10_takeTurn_11 rfl rfl ?_
  refine z_getR dX10_takeTurn_12 fl_X10_19 rfl rfl rfl ?_
  refine z_getR dX10_takeTurn_15 fl_X10_105 rfl rfl rfl ?_
  refine z_cV0 dX10_takeTurn_18 ml_X10_241 (sp_takeLocals ht) hk.2.1 ⟨by decide, rfl⟩ rfl rfl (Nat.le_of_ble_eq_true rfl) ?_
  refine z_iload_n dX10_takeTurn_21 rfl rfl ?_
  refine z_aload_n dX10_takeTurn_22 rfl rfl ?_
  refine z_getI dX10_takeTurn_23 fl_X10_65 rfl rfl (show _ = σ 0 12 from congrFun (tlS_ne (σ := σ) (T := tr t) (tr_ne (by decide) 5)) 12) ?_
  refine z_icmp_eq (tgt := 37) dX10_takeTurn_26 (by decide) (fun c26 => ?_) (fun c26 => ?_)
  · have e0 : ttH σ t n = tlS σ (tr t) := if_pos c26
    refine z_Vx e0 ?_
    refine z_aload_n dX10_takeTurn_37 rfl rfl ?_
    refine z_aload_n dX10_takeTurn_38 rfl rfl ?_
    refine z_getR dX10_takeTurn_39 fl_X10_19 rfl rfl rfl ?_
    refine z_aload_n dX10_takeTurn_42 rfl rfl ?_
    refine z_getR dX10_takeTurn_43 fl_X10_26 rfl rfl rfl ?_
    refine z_aload_n dX10_takeTurn_46 rfl rfl ?_
    refine z_getR dX10_takeTurn_47 fl_X10_33 rfl rfl rfl ?_
    refine z_cV1 dX10_takeTurn_50 ml_X10_251 (sp_doBody ht hm (bI_tt hI)) hk.1 ⟨by decide, rfl⟩ rfl rfl (Nat.le_of_ble_eq_true rfl) ?_
    refine z_istore_n dX10_takeTurn_53 rfl (by decide) ?_
    show z_V _ _ _ _ _ _ _ _ _ [_, _, _, _] _ _
    refine z_iload_n dX10_takeTurn_54 rfl rfl ?_
    refine z_if_eq (tgt := 74) dX10_takeTurn_55 (by decide) (fun c55 => ?_) (fun c55 => ?_)
    · refine z_aload_n dX10_takeTurn_74 rfl rfl ?_
      refine z_getR dX10_takeTurn_75 fl_X10_33 rfl rfl rfl ?_
      refine z_dup dX10_takeTurn_78 rfl ?_
      refine z_getI dX10_takeTurn_79 fl_X10_157 rfl rfl rfl ?_
      refine z_iconst (v := 1) dX10_takeTurn_82 (by decide) ?_
      refine z_iadd dX10_takeTurn_83 rfl ?_
      refine z_putI dX10_takeTurn_84 fl_X10_157 rfl rfl (Or.inl rfl) rfl ?_
      refine z_aload_n dX10_takeTurn_87 rfl rfl ?_
      refine z_iload_n dX10_takeTurn_88 rfl rfl ?_
      refine z_if_eq (tgt := 96) dX10_takeTurn_89 (by decide) (fun _ => ?_) (fun c_ => absurd (c55) c_)
      refine z_iconst (v := (-1)) dX10_takeTurn_96 (by decide) ?_
      refine z_putI dX10_takeTurn_97 fl_X10_65 rfl rfl (Or.inl rfl) rfl ?_
      exact z_vret dX10_takeTurn_100 rfl rfl (by simp [ttS, c55])
    · refine z_aload_n dX10_takeTurn_58 rfl rfl ?_
      refine z_getR dX10_takeTurn_59 fl_X10_33 rfl rfl rfl ?_
      refine z_dup dX10_takeTurn_62 rfl ?_
      refine z_getI dX10_takeTurn_63 fl_X10_154 rfl rfl rfl ?_
      refine z_iconst (v := 1) dX10_takeTurn_66 (by decide) ?_
      refine z_iadd dX10_takeTurn_67 rfl ?_
      refine z_putI dX10_takeTurn_68 fl_X10_154 rfl rfl (Or.inl rfl) rfl ?_
      refine z_goto (tgt := 87) dX10_takeTurn_71 (by decide) ?_
      refine z_aload_n dX10_takeTurn_87 rfl rfl ?_
      refine z_iload_n dX10_takeTurn_88 rfl rfl ?_
      refine z_if_eq (tgt := 96) dX10_takeTurn_89 (by decide) (fun c_ => absurd c_ (c55)) (fun _ => ?_)
      refine z_iload_n dX10_takeTurn_92 rfl rfl ?_
      refine z_goto (tgt := 97) dX10_takeTurn_93 (by decide) ?_
      refine z_putI dX10_takeTurn_97 fl_X10_65 rfl rfl (Or.inl rfl) rfl ?_
      exact z_vret dX10_takeTurn_100 rfl rfl (by simp [ttS, c55])
  · have e0 : ttH σ t n = z_up (hdS (tlS σ (tr t)) (tr t) n) 11 3 (tlS σ (tr t) 11 3 + nI n) := if_neg c26
    refine z_aload_n dX10_takeTurn_29 rfl rfl ?_
    refine z_aload_n dX10_takeTurn_30 rfl rfl ?_
    refine z_getR dX10_takeTurn_31 fl_X10_33 rfl rfl rfl ?_
    refine z_cV0 dX10_takeTurn_34 ml_X10_247 (sp_doHead (σ := tlS σ (tr t)) ht (show _ = nI n by rw [tlS_ne (by omega)]; exact hn) h30 (fun v hv => by obtain ⟨q, h1, h2⟩ := hh v hv; exact ⟨q, by rw [tlS_ne (by omega)]; exact h1, okV_eq (fun c _ hc => tlS_ne (by omega)) h2⟩)) hk.1 ⟨by decide, rfl⟩ rfl rfl (Nat.le_of_ble_eq_true rfl) ?_
    refine z_Vx e0 ?_
    refine z_aload_n dX10_takeTurn_37 rfl rfl ?_
    refine z_aload_n dX10_takeTurn_38 rfl rfl ?_
    refine z_getR dX10_takeTurn_39 fl_X10_19 rfl rfl rfl ?_
    refine z_aload_n dX10_takeTurn_42 rfl rfl ?_
    refine z_getR dX10_takeTurn_43 fl_X10_26 rfl rfl rfl ?_
    refine z_aload_n dX10_takeTurn_46 rfl rfl ?_
    refine z_getR dX10_takeTurn_47 fl_X10_33 rfl rfl rfl ?_
    refine z_cV1 dX10_takeTurn_50 ml_X10_251 (sp_doBody ht hm (bI_tt hI)) hk.1 ⟨by decide, rfl⟩ rfl rfl (Nat.le_of_ble_eq_true rfl) ?_
    refine z_istore_n dX10_takeTurn_53 rfl (by decide) ?_
    show z_V _ _ _ _ _ _ _ _ _ [_, _, _, _] _ _
    refine z_iload_n dX10_takeTurn_54 rfl rfl ?_
    refine z_if_eq (tgt := 74) dX10_takeTurn_55 (by decide) (fun c55 => ?_) (fun c55 => ?_)
    · refine z_aload_n dX10_takeTurn_74 rfl rfl ?_
      refine z_getR dX10_takeTurn_75 fl_X10_33 rfl rfl rfl ?_
      refine z_dup dX10_takeTurn_78 rfl ?_
      refine z_getI dX10_takeTurn_79 fl_X10_157 rfl rfl rfl ?_
      refine z_iconst (v := 1) dX10_takeTurn_82 (by decide) ?_
      refine z_iadd dX10_takeTurn_83 rfl ?_
      refine z_putI dX10_takeTurn_84 fl_X10_157 rfl rfl (Or.inl rfl) rfl ?_
      refine z_aload_n dX10_takeTurn_87 rfl rfl ?_
      refine z_iload_n dX10_takeTurn_88 rfl rfl ?_
      refine z_if_eq (tgt := 96) dX10_takeTurn_89 (by decide) (fun _ => ?_) (fun c_ => absurd (c55) c_)
      refine z_iconst (v := (-1)) dX10_takeTurn_96 (by decide) ?_
      refine z_putI dX10_takeTurn_97 fl_X10_65 rfl rfl (Or.inl rfl) rfl ?_
      exact z_vret dX10_takeTurn_100 rfl rfl (by simp [ttS, c55])
    · refine z_aload_n dX10_takeTurn_58 rfl rfl ?_
      refine z_getR dX10_takeTurn_59 fl_X10_33 rfl rfl rfl ?_
      refine z_dup dX10_takeTurn_62 rfl ?_
      refine z_getI dX10_takeTurn_63 fl_X10_154 rfl rfl rfl ?_
      refine z_iconst (v := 1) dX10_takeTurn_66 (by decide) ?_
      refine z_iadd dX10_takeTurn_67 rfl ?_
      refine z_putI dX10_takeTurn_68 fl_X10_154 rfl rfl (Or.inl rfl) rfl ?_
      refine z_goto (tgt := 87) dX10_takeTurn_71 (by decide) ?_
      refine z_aload_n dX10_takeTurn_87 rfl rfl ?_
      refine z_iload_n dX10_takeTurn_88 rfl rfl ?_
      refine z_if_eq (tgt := 96) dX10_takeTurn_89 (by decide) (fun c_ => absurd c_ (c55)) (fun _ => ?_)
      refine z_iload_n dX10_takeTurn_92 rfl rfl ?_
      refine z_goto (tgt := 97) dX10_takeTurn_93 (by decide) ?_
      refine z_putI dX10_takeTurn_97 fl_X10_65 rfl rfl (Or.inl rfl) rfl ?_
      exact z_vret dX10_takeTurn_100 rfl rfl (by simp [ttS, c55])
def ktS (σ1 : Nat → Nat → Int32) (t p : Nat) : Nat → Nat → Int32 := z_up (z_up (z_up (z_up σ1 14 p 1) 15 p (nI t)) 0 8 (nI (t + 1))) 16 2 (-1)
set_option maxRecDepth 100000 in
set_option maxHeartbeats 4000000 in
theorem sp_keepTrace {d : Nat} {σ : Nat → Nat → Int32} {τ : Nat → Nat → Int64} {t p : Nat} {σ1 : Nat → Nat → Int32} (ht : t < 4) (hp : p < 40) (ht8 : σ 0 8 = nI t) (hmk : z_MV M_X8_make (d + 3) 0 0 [.ref 19, .ref (tr t), .ref 1, .ref 16] (124, z_r0, σ, τ) none (124, z_r0, σ1, τ)) (hp1 : σ1 16 2 = nI p) (ht1 : σ1 0 8 = nI t) : z_MV M_X10_keepTrace (d + 4) 0 0 [.ref 0] (124, z_r0, σ, τ) (none) (124, z_r0, ktS σ1 t p, τ) := by
  refine z_MV.of pn_X10_keepTrace (Nat.le_of_ble_eq_true rfl) (by simp [Value.category]) rfl ?_
  show z_V _ _ _ _ _ _ _ _ _ [_] _ _
  have hk := tr_k ht
  have hr := tr_r ht
  refine z_aload_n dX10_keepTrace_0 rfl rfl ?_
  refine z_getR dX10_keepTrace_1 fl_X10_54 rfl rfl rfl ?_
  refine z_aload_n dX10_keepTrace_4 rfl rfl ?_
  refine z_getR dX10_keepTrace_5 fl_X10_60 rfl rfl rfl ?_
  refine z_aload_n dX10_keepTrace_8 rfl rfl ?_
  refine z_getI dX10_keepTrace_9 fl_X10_163 rfl rfl ht8 ?_
  refine z_aald dX10_keepTrace_12 rfl rfl (by omega) hr.1 ?_
  refine z_aload_n dX10_keepTrace_13 rfl rfl ?_
  refine z_getR dX10_keepTrace_14 fl_X10_12 rfl rfl rfl ?_
  refine z_aload_n dX10_keepTrace_17 rfl rfl ?_
  refine z_getR dX10_keepTrace_18 fl_X10_47 rfl rfl rfl ?_
  refine z_cV0 dX10_keepTrace_21 ml_X10_294 (hmk) rfl ⟨by decide, rfl⟩ rfl rfl (Nat.le_of_ble_eq_true rfl) ?_
  refine z_aload_n dX10_keepTrace_24 rfl rfl ?_
  refine z_getR dX10_keepTrace_25 fl_X10_40 rfl rfl rfl ?_
  refine z_getR dX10_keepTrace_28 fl_X10_176 rfl rfl rfl ?_
  refine z_aload_n dX10_keepTrace_31 rfl rfl ?_
  refine z_getR dX10_keepTrace_32 fl_X10_47 rfl rfl rfl ?_
  refine z_getI dX10_keepTrace_35 fl_X10_293 rfl rfl hp1 ?_
  refine z_iconst (v := 1) dX10_keepTrace_38 (by decide) ?_
  refine z_iast dX10_keepTrace_39 rfl rfl (by omega) ?_
  refine z_aload_n dX10_keepTrace_40 rfl rfl ?_
  refine z_getR dX10_keepTrace_41 fl_X10_40 rfl rfl rfl ?_
  refine z_getR dX10_keepTrace_44 fl_X10_221 rfl rfl rfl ?_
  refine z_aload_n dX10_keepTrace_47 rfl rfl ?_
  refine z_getR dX10_keepTrace_48 fl_X10_47 rfl rfl rfl ?_
  refine z_getI dX10_keepTrace_51 fl_X10_293 rfl rfl (show _ = nI p by simp [z_up, hp1]) ?_
  refine z_aload_n dX10_keepTrace_54 rfl rfl ?_
  refine z_getI dX10_keepTrace_55 fl_X10_163 rfl rfl (show _ = nI t by simp [z_up, ht1]) ?_
  refine z_iast dX10_keepTrace_58 rfl rfl (by omega) ?_
  refine z_aload_n dX10_keepTrace_59 rfl rfl ?_
  refine z_dup dX10_keepTrace_60 rfl ?_
  refine z_getI dX10_keepTrace_61 fl_X10_163 rfl rfl (show _ = nI t by simp [z_up, ht1]) ?_
  refine z_iconst (v := 1) dX10_keepTrace_64 (by decide) ?_
  refine z_iadd dX10_keepTrace_65 (nI_1 _) ?_
  refine z_putI dX10_keepTrace_66 fl_X10_163 rfl rfl (Or.inl rfl) rfl ?_
  refine z_aload_n dX10_keepTrace_69 rfl rfl ?_
  refine z_getR dX10_keepTrace_70 fl_X10_47 rfl rfl rfl ?_
  refine z_cV0 dX10_keepTrace_73 ml_X10_212 (sp_stop) rfl ⟨by decide, rfl⟩ rfl rfl (Nat.le_of_ble_eq_true rfl) ?_
  exact z_vret dX10_keepTrace_76 rfl rfl rfl
def stF (σ : Nat → Nat → Int32) : Nat → Nat → Int32 := if σ 16 2 ≠ -1 ∧ σ 16 3 = nI 30 then guS σ (tN (σ 16 2)) else σ
set_option maxRecDepth 100000 in
set_option maxHeartbeats 4000000 in
theorem sp_step {d : Nat} {σ : Nat → Nat → Int32} {τ : Nat → Nat → Int64} {a : Nat} {σ1 σ2 : Nat → Nat → Int32} (hf : σ 16 2 ≠ -1 → ∃ p, p < 40 ∧ σ 16 2 = nI p) (hnx : stF σ 6 3 = nI a) (ha : a < 40)
    (hI : (stF σ 16 2 ≠ -1 ∨ stF σ 15 a = -1) → z_MV M_X10_interpret (d + 4) 0 0 [.ref 0] (124, z_r0, stF σ, τ) none (124, z_r0, σ1, τ))
    (hT : ¬ (stF σ 16 2 ≠ -1 ∨ stF σ 15 a = -1) → z_MV M_X10_takeTurn (d + 4) 0 0 [.ref 0, .int (stF σ 15 a)] (124, z_r0, stF σ, τ) none (124, z_r0, σ1, τ))
    (hK : (σ1 16 2 ≠ -1 ∧ ¬ σ1 16 3 ≤ 0 ∧ σ1 6 3 = σ1 16 2) → z_MV M_X10_keepTrace (d + 4) 0 0 [.ref 0] (124, z_r0, σ1, τ) none (124, z_r0, σ2, τ))
    (hK' : ¬ (σ1 16 2 ≠ -1 ∧ ¬ σ1 16 3 ≤ 0 ∧ σ1 6 3 = σ1 16 2) → σ2 = σ1) : z_MV M_X10_step (d + 5) 0 0 [.ref 0] (124, z_r0, σ, τ) (none) (124, z_r0, σ2, τ) := by
  refine z_MV.of pn_X10_step (Nat.le_of_ble_eq_true rfl) (by simp [Value.category]) rfl ?_
  show z_V _ _ _ _ _ _ _ _ _ [_, _] _ _
  refine z_aload_n dX10_step_0 rfl rfl ?_
  refine z_getR dX10_step_1 fl_X10_47 rfl rfl rfl ?_
  refine z_cV1 dX10_step_4 ml_X10_215 (sp_isFull) rfl ⟨by decide, rfl⟩ rfl rfl (Nat.le_of_ble_eq_true rfl) ?_
  refine z_if_eq (tgt := 14) dX10_step_7 (by decide) (fun c7 => ?_) (fun c7 => ?_)
  · have hfu : ¬ (σ 16 2 ≠ -1 ∧ σ 16 3 = nI 30) := fun q => by rw [b2i_t q] at c7; exact absurd c7 (by decide)
    have e0 : stF σ = σ := if_neg hfu
    refine z_Vx e0 ?_
    refine z_aload_n dX10_step_14 rfl rfl ?_
    refine z_getR dX10_step_15 fl_X10_47 rfl rfl rfl ?_
    refine z_cV1 dX10_step_18 ml_X10_166 (sp_isOn) rfl ⟨by decide, rfl⟩ rfl rfl (Nat.le_of_ble_eq_true rfl) ?_
    refine z_if_eq (tgt := 28) dX10_step_21 (by decide) (fun c21 => ?_) (fun c21 => ?_)
    · have hon : ¬ stF σ 16 2 ≠ -1 := fun q => by rw [b2i_t q] at c21; exact absurd c21 (by decide)
      refine z_aload_n dX10_step_28 rfl rfl ?_
      refine z_getR dX10_step_29 fl_X10_40 rfl rfl rfl ?_
      refine z_getR dX10_step_32 fl_X10_221 rfl rfl rfl ?_
      refine z_aload_n dX10_step_35 rfl rfl ?_
      refine z_getR dX10_step_36 fl_X10_19 rfl rfl rfl ?_
      refine z_getI dX10_step_39 fl_X10_148 rfl rfl hnx ?_
      refine z_iald dX10_step_42 rfl rfl (by omega) rfl ?_
      refine z_istore_n dX10_step_43 rfl (by decide) ?_
      show z_V _ _ _ _ _ _ _ _ _ [_, _] _ _
      refine z_iload_n dX10_step_44 rfl rfl ?_
      refine z_iconst (v := (-1)) dX10_step_45 (by decide) ?_
      refine z_icmp_ne (tgt := 56) dX10_step_46 (by decide) (fun c46 => ?_) (fun c46 => ?_)
      · refine z_aload_n dX10_step_56 rfl rfl ?_
        refine z_iload_n dX10_step_57 rfl rfl ?_
        refine z_cV0 dX10_step_58 ml_X10_227 (hT (fun z => z.elim hon c46)) rfl ⟨by decide, rfl⟩ rfl rfl (Nat.le_of_ble_eq_true rfl) ?_
        refine z_aload_n dX10_step_61 rfl rfl ?_
        refine z_getR dX10_step_62 fl_X10_47 rfl rfl rfl ?_
        refine z_aload_n dX10_step_65 rfl rfl ?_
        refine z_getR dX10_step_66 fl_X10_19 rfl rfl rfl ?_
        refine z_getI dX10_step_69 fl_X10_148 rfl rfl rfl ?_
        refine z_cV1 dX10_step_72 ml_X10_231 (sp_closesAt) rfl ⟨by decide, rfl⟩ rfl rfl (Nat.le_of_ble_eq_true rfl) ?_
        refine z_if_eq (tgt := 82) dX10_step_75 (by decide) (fun c75 => ?_) (fun c75 => ?_)
        · have hcl : ¬ (σ1 16 2 ≠ -1 ∧ ¬ σ1 16 3 ≤ 0 ∧ σ1 6 3 = σ1 16 2) := fun q => by rw [b2i_t q] at c75; exact absurd c75 (by decide)
          have e2 := hK' hcl
          exact z_vret dX10_step_82 rfl rfl (by rw [e2])
        · have hcl : σ1 16 2 ≠ -1 ∧ ¬ σ1 16 3 ≤ 0 ∧ σ1 6 3 = σ1 16 2 := by
            rcases Decidable.em (σ1 16 2 ≠ -1 ∧ ¬ σ1 16 3 ≤ 0 ∧ σ1 6 3 = σ1 16 2) with q | q
            · exact q
            · rw [b2i_f q] at c75; exact absurd rfl c75
          refine z_aload_n dX10_step_78 rfl rfl ?_
          refine z_cV0 dX10_step_79 ml_X10_234 (hK hcl) rfl ⟨by decide, rfl⟩ rfl rfl (Nat.le_of_ble_eq_true rfl) ?_
          exact z_vret dX10_step_82 rfl rfl rfl
      · refine z_aload_n dX10_step_49 rfl rfl ?_
        refine z_cV0 dX10_step_50 ml_X10_224 (hI (Or.inr c46)) rfl ⟨by decide, rfl⟩ rfl rfl (Nat.le_of_ble_eq_true rfl) ?_
        refine z_goto (tgt := 61) dX10_step_53 (by decide) ?_
        refine z_aload_n dX10_step_61 rfl rfl ?_
        refine z_getR dX10_step_62 fl_X10_47 rfl rfl rfl ?_
        refine z_aload_n dX10_step_65 rfl rfl ?_
        refine z_getR dX10_step_66 fl_X10_19 rfl rfl rfl ?_
        refine z_getI dX10_step_69 fl_X10_148 rfl rfl rfl ?_
        refine z_cV1 dX10_step_72 ml_X10_231 (sp_closesAt) rfl ⟨by decide, rfl⟩ rfl rfl (Nat.le_of_ble_eq_true rfl) ?_
        refine z_if_eq (tgt := 82) dX10_step_75 (by decide) (fun c75 => ?_) (fun c75 => ?_)
        · have hcl : ¬ (σ1 16 2 ≠ -1 ∧ ¬ σ1 16 3 ≤ 0 ∧ σ1 6 3 = σ1 16 2) := fun q => by rw [b2i_t q] at c75; exact absurd c75 (by decide)
          have e2 := hK' hcl
          exact z_vret dX10_step_82 rfl rfl (by rw [e2])
        · have hcl : σ1 16 2 ≠ -1 ∧ ¬ σ1 16 3 ≤ 0 ∧ σ1 6 3 = σ1 16 2 := by
            rcases Decidable.em (σ1 16 2 ≠ -1 ∧ ¬ σ1 16 3 ≤ 0 ∧ σ1 6 3 = σ1 16 2) with q | q
            · exact q
            · rw [b2i_f q] at c75; exact absurd rfl c75
          refine z_aload_n dX10_step_78 rfl rfl ?_
          refine z_cV0 dX10_step_79 ml_X10_234 (hK hcl) rfl ⟨by decide, rfl⟩ rfl rfl (Nat.le_of_ble_eq_true rfl) ?_
          exact z_vret dX10_step_82 rfl rfl rfl
    · have hon : stF σ 16 2 ≠ -1 := by
        rcases Decidable.em (stF σ 16 2 ≠ -1) with q | q
        · exact q
        · rw [b2i_f q] at c21; exact absurd rfl c21
      refine z_iconst (v := (-1)) dX10_step_24 (by decide) ?_
      refine z_goto (tgt := 43) dX10_step_25 (by decide) ?_
      refine z_istore_n dX10_step_43 rfl (by decide) ?_
      show z_V _ _ _ _ _ _ _ _ _ [_, _] _ _
      refine z_iload_n dX10_step_44 rfl rfl ?_
      refine z_iconst (v := (-1)) dX10_step_45 (by decide) ?_
      refine z_icmp_ne (tgt := 56) dX10_step_46 (by decide) (fun c_ => absurd (rfl) c_) (fun _ => ?_)
      refine z_aload_n dX10_step_49 rfl rfl ?_
      refine z_cV0 dX10_step_50 ml_X10_224 (hI (Or.inl hon)) rfl ⟨by decide, rfl⟩ rfl rfl (Nat.le_of_ble_eq_true rfl) ?_
      refine z_goto (tgt := 61) dX10_step_53 (by decide) ?_
      refine z_aload_n dX10_step_61 rfl rfl ?_
      refine z_getR dX10_step_62 fl_X10_47 rfl rfl rfl ?_
      refine z_aload_n dX10_step_65 rfl rfl ?_
      refine z_getR dX10_step_66 fl_X10_19 rfl rfl rfl ?_
      refine z_getI dX10_step_69 fl_X10_148 rfl rfl rfl ?_
      refine z_cV1 dX10_step_72 ml_X10_231 (sp_closesAt) rfl ⟨by decide, rfl⟩ rfl rfl (Nat.le_of_ble_eq_true rfl) ?_
      refine z_if_eq (tgt := 82) dX10_step_75 (by decide) (fun c75 => ?_) (fun c75 => ?_)
      · have hcl : ¬ (σ1 16 2 ≠ -1 ∧ ¬ σ1 16 3 ≤ 0 ∧ σ1 6 3 = σ1 16 2) := fun q => by rw [b2i_t q] at c75; exact absurd c75 (by decide)
        have e2 := hK' hcl
        exact z_vret dX10_step_82 rfl rfl (by rw [e2])
      · have hcl : σ1 16 2 ≠ -1 ∧ ¬ σ1 16 3 ≤ 0 ∧ σ1 6 3 = σ1 16 2 := by
          rcases Decidable.em (σ1 16 2 ≠ -1 ∧ ¬ σ1 16 3 ≤ 0 ∧ σ1 6 3 = σ1 16 2) with q | q
          · exact q
          · rw [b2i_f q] at c75; exact absurd rfl c75
        refine z_aload_n dX10_step_78 rfl rfl ?_
        refine z_cV0 dX10_step_79 ml_X10_234 (hK hcl) rfl ⟨by decide, rfl⟩ rfl rfl (Nat.le_of_ble_eq_true rfl) ?_
        exact z_vret dX10_step_82 rfl rfl rfl
  · have hfu : σ 16 2 ≠ -1 ∧ σ 16 3 = nI 30 := by
      rcases Decidable.em (σ 16 2 ≠ -1 ∧ σ 16 3 = nI 30) with q | q
      · exact q
      · rw [b2i_f q] at c7; exact absurd rfl c7
    obtain ⟨p, hp, hpp⟩ := hf hfu.1
    have e0 : stF σ = guS σ p := by unfold stF; rw [if_pos hfu, hpp, tN_nI (by omega)]
    refine z_aload_n dX10_step_10 rfl rfl ?_
    refine z_cV0 dX10_step_11 ml_X10_218 (sp_giveUp hpp hp) rfl ⟨by decide, rfl⟩ rfl rfl (Nat.le_of_ble_eq_true rfl) ?_
    refine z_Vx e0 ?_
    refine z_aload_n dX10_step_14 rfl rfl ?_
    refine z_getR dX10_step_15 fl_X10_47 rfl rfl rfl ?_
    refine z_cV1 dX10_step_18 ml_X10_166 (sp_isOn) rfl ⟨by decide, rfl⟩ rfl rfl (Nat.le_of_ble_eq_true rfl) ?_
    refine z_if_eq (tgt := 28) dX10_step_21 (by decide) (fun c21 => ?_) (fun c21 => ?_)
    · have hon : ¬ stF σ 16 2 ≠ -1 := fun q => by rw [b2i_t q] at c21; exact absurd c21 (by decide)
      refine z_aload_n dX10_step_28 rfl rfl ?_
      refine z_getR dX10_step_29 fl_X10_40 rfl rfl rfl ?_
      refine z_getR dX10_step_32 fl_X10_221 rfl rfl rfl ?_
      refine z_aload_n dX10_step_35 rfl rfl ?_
      refine z_getR dX10_step_36 fl_X10_19 rfl rfl rfl ?_
      refine z_getI dX10_step_39 fl_X10_148 rfl rfl hnx ?_
      refine z_iald dX10_step_42 rfl rfl (by omega) rfl ?_
      refine z_istore_n dX10_step_43 rfl (by decide) ?_
      show z_V _ _ _ _ _ _ _ _ _ [_, _] _ _
      refine z_iload_n dX10_step_44 rfl rfl ?_
      refine z_iconst (v := (-1)) dX10_step_45 (by decide) ?_
      refine z_icmp_ne (tgt := 56) dX10_step_46 (by decide) (fun c46 => ?_) (fun c46 => ?_)
      · refine z_aload_n dX10_step_56 rfl rfl ?_
        refine z_iload_n dX10_step_57 rfl rfl ?_
        refine z_cV0 dX10_step_58 ml_X10_227 (hT (fun z => z.elim hon c46)) rfl ⟨by decide, rfl⟩ rfl rfl (Nat.le_of_ble_eq_true rfl) ?_
        refine z_aload_n dX10_step_61 rfl rfl ?_
        refine z_getR dX10_step_62 fl_X10_47 rfl rfl rfl ?_
        refine z_aload_n dX10_step_65 rfl rfl ?_
        refine z_getR dX10_step_66 fl_X10_19 rfl rfl rfl ?_
        refine z_getI dX10_step_69 fl_X10_148 rfl rfl rfl ?_
        refine z_cV1 dX10_step_72 ml_X10_231 (sp_closesAt) rfl ⟨by decide, rfl⟩ rfl rfl (Nat.le_of_ble_eq_true rfl) ?_
        refine z_if_eq (tgt := 82) dX10_step_75 (by decide) (fun c75 => ?_) (fun c75 => ?_)
        · have hcl : ¬ (σ1 16 2 ≠ -1 ∧ ¬ σ1 16 3 ≤ 0 ∧ σ1 6 3 = σ1 16 2) := fun q => by rw [b2i_t q] at c75; exact absurd c75 (by decide)
          have e2 := hK' hcl
          exact z_vret dX10_step_82 rfl rfl (by rw [e2])
        · have hcl : σ1 16 2 ≠ -1 ∧ ¬ σ1 16 3 ≤ 0 ∧ σ1 6 3 = σ1 16 2 := by
            rcases Decidable.em (σ1 16 2 ≠ -1 ∧ ¬ σ1 16 3 ≤ 0 ∧ σ1 6 3 = σ1 16 2) with q | q
            · exact q
            · rw [b2i_f q] at c75; exact absurd rfl c75
          refine z_aload_n dX10_step_78 rfl rfl ?_
          refine z_cV0 dX10_step_79 ml_X10_234 (hK hcl) rfl ⟨by decide, rfl⟩ rfl rfl (Nat.le_of_ble_eq_true rfl) ?_
          exact z_vret dX10_step_82 rfl rfl rfl
      · refine z_aload_n dX10_step_49 rfl rfl ?_
        refine z_cV0 dX10_step_50 ml_X10_224 (hI (Or.inr c46)) rfl ⟨by decide, rfl⟩ rfl rfl (Nat.le_of_ble_eq_true rfl) ?_
        refine z_goto (tgt := 61) dX10_step_53 (by decide) ?_
        refine z_aload_n dX10_step_61 rfl rfl ?_
        refine z_getR dX10_step_62 fl_X10_47 rfl rfl rfl ?_
        refine z_aload_n dX10_step_65 rfl rfl ?_
        refine z_getR dX10_step_66 fl_X10_19 rfl rfl rfl ?_
        refine z_getI dX10_step_69 fl_X10_148 rfl rfl rfl ?_
        refine z_cV1 dX10_step_72 ml_X10_231 (sp_closesAt) rfl ⟨by decide, rfl⟩ rfl rfl (Nat.le_of_ble_eq_true rfl) ?_
        refine z_if_eq (tgt := 82) dX10_step_75 (by decide) (fun c75 => ?_) (fun c75 => ?_)
        · have hcl : ¬ (σ1 16 2 ≠ -1 ∧ ¬ σ1 16 3 ≤ 0 ∧ σ1 6 3 = σ1 16 2) := fun q => by rw [b2i_t q] at c75; exact absurd c75 (by decide)
          have e2 := hK' hcl
          exact z_vret dX10_step_82 rfl rfl (by rw [e2])
        · have hcl : σ1 16 2 ≠ -1 ∧ ¬ σ1 16 3 ≤ 0 ∧ σ1 6 3 = σ1 16 2 := by
            rcases Decidable.em (σ1 16 2 ≠ -1 ∧ ¬ σ1 16 3 ≤ 0 ∧ σ1 6 3 = σ1 16 2) with q | q
            · exact q
            · rw [b2i_f q] at c75; exact absurd rfl c75
          refine z_aload_n dX10_step_78 rfl rfl ?_
          refine z_cV0 dX10_step_79 ml_X10_234 (hK hcl) rfl ⟨by decide, rfl⟩ rfl rfl (Nat.le_of_ble_eq_true rfl) ?_
          exact z_vret dX10_step_82 rfl rfl rfl
    · have hon : stF σ 16 2 ≠ -1 := by
        rcases Decidable.em (stF σ 16 2 ≠ -1) with q | q
        · exact q
        · rw [b2i_f q] at c21; exact absurd rfl c21
      refine z_iconst (v := (-1)) dX10_step_24 (by decide) ?_
      refine z_goto (tgt := 43) dX10_step_25 (by decide) ?_
      refine z_istore_n dX10_step_43 rfl (by decide) ?_
      show z_V _ _ _ _ _ _ _ _ _ [_, _] _ _
      refine z_iload_n dX10_step_44 rfl rfl ?_
      refine z_iconst (v := (-1)) dX10_step_45 (by decide) ?_
      refine z_icmp_ne (tgt := 56) dX10_step_46 (by decide) (fun c_ => absurd (rfl) c_) (fun _ => ?_)
      refine z_aload_n dX10_step_49 rfl rfl ?_
      refine z_cV0 dX10_step_50 ml_X10_224 (hI (Or.inl hon)) rfl ⟨by decide, rfl⟩ rfl rfl (Nat.le_of_ble_eq_true rfl) ?_
      refine z_goto (tgt := 61) dX10_step_53 (by decide) ?_
      refine z_aload_n dX10_step_61 rfl rfl ?_
      refine z_getR dX10_step_62 fl_X10_47 rfl rfl rfl ?_
      refine z_aload_n dX10_step_65 rfl rfl ?_
      refine z_getR dX10_step_66 fl_X10_19 rfl rfl rfl ?_
      refine z_getI dX10_step_69 fl_X10_148 rfl rfl rfl ?_
      refine z_cV1 dX10_step_72 ml_X10_231 (sp_closesAt) rfl ⟨by decide, rfl⟩ rfl rfl (Nat.le_of_ble_eq_true rfl) ?_
      refine z_if_eq (tgt := 82) dX10_step_75 (by decide) (fun c75 => ?_) (fun c75 => ?_)
      · have hcl : ¬ (σ1 16 2 ≠ -1 ∧ ¬ σ1 16 3 ≤ 0 ∧ σ1 6 3 = σ1 16 2) := fun q => by rw [b2i_t q] at c75; exact absurd c75 (by decide)
        have e2 := hK' hcl
        exact z_vret dX10_step_82 rfl rfl (by rw [e2])
      · have hcl : σ1 16 2 ≠ -1 ∧ ¬ σ1 16 3 ≤ 0 ∧ σ1 6 3 = σ1 16 2 := by
          rcases Decidable.em (σ1 16 2 ≠ -1 ∧ ¬ σ1 16 3 ≤ 0 ∧ σ1 6 3 = σ1 16 2) with q | q
          · exact q
          · rw [b2i_f q] at c75; exact absurd rfl c75
        refine z_aload_n dX10_step_78 rfl rfl ?_
        refine z_cV0 dX10_step_79 ml_X10_234 (hK hcl) rfl ⟨by decide, rfl⟩ rfl rfl (Nat.le_of_ble_eq_true rfl) ?_
        exact z_vret dX10_step_82 rfl rfl rfl
