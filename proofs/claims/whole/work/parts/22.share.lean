/-! PART 22: Values.share, Values.reset, Values.takeLocals -/
def mt (σ : Nat → Nat → Int32) (T j : Nat) (k l r : Int32) : Prop := σ (T + 2) j = k ∧ σ (T + 3) j = l ∧ σ (T + 4) j = r
def shr (σ : Nat → Nat → Int32) (T n : Nat) (k l r : Int32) : Nat → Nat → Int32 := z_up (z_up (z_up (z_up (z_up σ (T + 2) n k) (T + 3) n l) (T + 4) n r) (T + 5) n (if k = 0 then l else 0)) (T + 1) 4 (nI (n + 1))
set_option maxRecDepth 100000 in
set_option maxHeartbeats 4000000 in
theorem share_old_loop {d : Nat} {σ : Nat → Nat → Int32} {τ : Nat → Nat → Int64} {t n : Nat} {k l r : Int32} (ht : t < 4) (hn : σ (tr t + 1) 4 = nI n) {v0 : Nat} (h36 : n ≤ 36) (hv0 : v0 < n) (hm : mt σ (tr t) v0 k l r) (hno : ∀ j, j < v0 → ¬ mt σ (tr t) j k l r) : ∀ (m v : Nat), v ≤ v0 → v0 - v < m → z_V M_X9_share d 0 0 0 0 (some (.int (nI v0))) (124, z_r0, σ, τ) 3 [some (.ref (tr t + 1)), some (.int k), some (.int l), some (.int r), some (.int (nI v))] [] (124, z_r0, σ, τ) := by
  have hk := tr_k ht
  have hr := tr_r ht
  intro m
  induction m with
  | zero => intro v _ h; omega
  | succ m ih =>
    intro v hv1 hv2
    refine z_iload dX9_share_3 rfl ?_
    refine z_aload_n dX9_share_5 rfl rfl ?_
    refine z_getI dX9_share_6 fl_X9_24 rfl hk.2.1 (show _ = nI n by simp [z_up, hn]) ?_
    refine z_icmp_ge (tgt := 54) dX9_share_9 (by decide) (fun c_ => absurd c_ (nI_ge (show v < n by omega) (by omega))) (fun _ => ?_)
    refine z_aload_n dX9_share_12 rfl rfl ?_
    refine z_getR dX9_share_13 fl_X9_9 rfl hk.2.1 hr.2.2.2.2.2.2.2.1 ?_
    refine z_iload dX9_share_16 rfl ?_
    refine z_iald dX9_share_18 hk.2.2.1 rfl (by omega) rfl ?_
    refine z_iload_n dX9_share_19 rfl rfl ?_
    refine z_icmp_ne (tgt := 48) dX9_share_20 (by decide) (fun c20 => ?_) (fun c20 => ?_)
    · refine z_iinc dX9_share_48 rfl (nI_i _) (by decide) ?_
      show z_V _ _ _ _ _ _ _ _ _ [_, _, _, _, _] _ _
      refine z_goto (tgt := 3) dX9_share_51 (by decide) ?_
      have hne : v ≠ v0 := by
        intro q
        subst q
        obtain ⟨m1, m2, m3⟩ := hm
        first | exact c20 m1 | exact c31 m2 | exact c42 m3
      exact ih (v + 1) (by omega) (by omega)
    · refine z_aload_n dX9_share_23 rfl rfl ?_
      refine z_getR dX9_share_24 fl_X9_15 rfl hk.2.1 hr.2.2.2.2.2.2.2.2.1 ?_
      refine z_iload dX9_share_27 rfl ?_
      refine z_iald dX9_share_29 hk.2.2.2.1 rfl (by omega) rfl ?_
      refine z_iload_n dX9_share_30 rfl rfl ?_
      refine z_icmp_ne (tgt := 48) dX9_share_31 (by decide) (fun c31 => ?_) (fun c31 => ?_)
      · refine z_iinc dX9_share_48 rfl (nI_i _) (by decide) ?_
        show z_V _ _ _ _ _ _ _ _ _ [_, _, _, _, _] _ _
        refine z_goto (tgt := 3) dX9_share_51 (by decide) ?_
        have hne : v ≠ v0 := by
          intro q
          subst q
          obtain ⟨m1, m2, m3⟩ := hm
          first | exact c20 m1 | exact c31 m2 | exact c42 m3
        exact ih (v + 1) (by omega) (by omega)
      · refine z_aload_n dX9_share_34 rfl rfl ?_
        refine z_getR dX9_share_35 fl_X9_18 rfl hk.2.1 hr.2.2.2.2.2.2.2.2.2.1 ?_
        refine z_iload dX9_share_38 rfl ?_
        refine z_iald dX9_share_40 hk.2.2.2.2.1 rfl (by omega) rfl ?_
        refine z_iload_n dX9_share_41 rfl rfl ?_
        refine z_icmp_ne (tgt := 48) dX9_share_42 (by decide) (fun c42 => ?_) (fun c42 => ?_)
        · refine z_iinc dX9_share_48 rfl (nI_i _) (by decide) ?_
          show z_V _ _ _ _ _ _ _ _ _ [_, _, _, _, _] _ _
          refine z_goto (tgt := 3) dX9_share_51 (by decide) ?_
          have hne : v ≠ v0 := by
            intro q
            subst q
            obtain ⟨m1, m2, m3⟩ := hm
            first | exact c20 m1 | exact c31 m2 | exact c42 m3
          exact ih (v + 1) (by omega) (by omega)
        · have hv : v = v0 := by
            rcases Nat.lt_or_ge v v0 with q | q
            · exact absurd ⟨c20, c31, c42⟩ (hno v q)
            · omega
          subst hv
          refine z_iload dX9_share_45 rfl ?_
          exact z_iret dX9_share_47 rfl rfl rfl
set_option maxRecDepth 100000 in
set_option maxHeartbeats 4000000 in
theorem sp_share_old {d : Nat} {σ : Nat → Nat → Int32} {τ : Nat → Nat → Int64} {t n : Nat} {k l r : Int32} (ht : t < 4) (hn : σ (tr t + 1) 4 = nI n) {v0 : Nat} (h36 : n ≤ 36) (hv0 : v0 < n) (hm : mt σ (tr t) v0 k l r) (hno : ∀ j, j < v0 → ¬ mt σ (tr t) j k l r) : z_MV M_X9_share d 0 0 [.ref (tr t + 1), .int k, .int l, .int r] (124, z_r0, σ, τ) (some (.int (nI v0))) (124, z_r0, σ, τ) := by
  refine z_MV.of pn_X9_share (Nat.le_of_ble_eq_true rfl) (by simp [Value.category]) rfl ?_
  show z_V _ _ _ _ _ _ _ _ _ [_, _, _, _, _] _ _
  refine z_iconst (v := 0) dX9_share_0 (by decide) ?_
  refine z_istore dX9_share_1 (by decide) ?_
  show z_V _ _ _ _ _ _ _ _ _ [_, _, _, _, _] _ _
  exact share_old_loop ht hn h36 hv0 hm hno (v0 + 1) 0 (Nat.zero_le _) (by omega)
set_option maxRecDepth 100000 in
set_option maxHeartbeats 4000000 in
theorem share_new_loop {d : Nat} {σ : Nat → Nat → Int32} {τ : Nat → Nat → Int64} {t n : Nat} {k l r : Int32} (ht : t < 4) (hn : σ (tr t + 1) 4 = nI n) (h36 : n < 36) (hno : ∀ j, j < n → ¬ mt σ (tr t) j k l r) : ∀ (m v : Nat), v ≤ n → n - v < m → z_V M_X9_share d 0 0 0 0 (some (.int (nI n))) (124, z_r0, shr σ (tr t) n k l r, τ) 3 [some (.ref (tr t + 1)), some (.int k), some (.int l), some (.int r), some (.int (nI v))] [] (124, z_r0, σ, τ) := by
  have hk := tr_k ht
  have hr := tr_r ht
  intro m
  induction m with
  | zero => intro v _ h; omega
  | succ m ih =>
    intro v hv1 hv2
    refine z_iload dX9_share_3 rfl ?_
    refine z_aload_n dX9_share_5 rfl rfl ?_
    refine z_getI dX9_share_6 fl_X9_24 rfl hk.2.1 (show _ = nI n by simp [z_up, hn]) ?_
    refine z_icmp_ge (tgt := 54) dX9_share_9 (by decide) (fun c9 => ?_) (fun c9 => ?_)
    · have e0 : n = v := by
        rcases Nat.lt_or_ge v n with q | q
        · exact absurd c9 (nI_ge q (by omega))
        · omega
      subst e0
      refine z_aload_n dX9_share_54 rfl rfl ?_
      refine z_getR dX9_share_55 fl_X9_9 rfl hk.2.1 hr.2.2.2.2.2.2.2.1 ?_
      refine z_aload_n dX9_share_58 rfl rfl ?_
      refine z_getI dX9_share_59 fl_X9_24 rfl hk.2.1 (show _ = nI n by simp [z_up, hn]) ?_
      refine z_iload_n dX9_share_62 rfl rfl ?_
      refine z_iast dX9_share_63 hk.2.2.1 rfl (by omega) ?_
      refine z_aload_n dX9_share_64 rfl rfl ?_
      refine z_getR dX9_share_65 fl_X9_15 rfl hk.2.1 hr.2.2.2.2.2.2.2.2.1 ?_
      refine z_aload_n dX9_share_68 rfl rfl ?_
      refine z_getI dX9_share_69 fl_X9_24 rfl hk.2.1 (show _ = nI n by simp [z_up, hn]) ?_
      refine z_iload_n dX9_share_72 rfl rfl ?_
      refine z_iast dX9_share_73 hk.2.2.2.1 rfl (by omega) ?_
      refine z_aload_n dX9_share_74 rfl rfl ?_
      refine z_getR dX9_share_75 fl_X9_18 rfl hk.2.1 hr.2.2.2.2.2.2.2.2.2.1 ?_
      refine z_aload_n dX9_share_78 rfl rfl ?_
      refine z_getI dX9_share_79 fl_X9_24 rfl hk.2.1 (show _ = nI n by simp [z_up, hn]) ?_
      refine z_iload_n dX9_share_82 rfl rfl ?_
      refine z_iast dX9_share_83 hk.2.2.2.2.1 rfl (by omega) ?_
      refine z_aload_n dX9_share_84 rfl rfl ?_
      refine z_getR dX9_share_85 fl_X9_21 rfl hk.2.1 hr.2.2.2.2.2.2.2.2.2.2.1 ?_
      refine z_aload_n dX9_share_88 rfl rfl ?_
      refine z_getI dX9_share_89 fl_X9_24 rfl hk.2.1 (show _ = nI n by simp [z_up, hn]) ?_
      refine z_iload_n dX9_share_92 rfl rfl ?_
      refine z_if_ne (tgt := 100) dX9_share_93 (by decide) (fun c93 => ?_) (fun c93 => ?_)
      · refine z_iconst (v := 0) dX9_share_100 (by decide) ?_
        refine z_iast dX9_share_101 hk.2.2.2.2.2.1 rfl (by omega) ?_
        refine z_aload_n dX9_share_102 rfl rfl ?_
        refine z_dup dX9_share_103 rfl ?_
        refine z_getI dX9_share_104 fl_X9_24 rfl hk.2.1 (show _ = nI n by simp [z_up, hn]) ?_
        refine z_iconst (v := 1) dX9_share_107 (by decide) ?_
        refine z_iadd dX9_share_108 (nI_1 _) ?_
        refine z_putI dX9_share_109 fl_X9_24 rfl rfl (Or.inl rfl) hk.2.1 ?_
        refine z_aload_n dX9_share_112 rfl rfl ?_
        refine z_getI dX9_share_113 fl_X9_24 rfl hk.2.1 (show _ = nI (n + 1) by simp [z_up]) ?_
        refine z_iconst (v := 1) dX9_share_116 (by decide) ?_
        refine z_isub dX9_share_117 (nI_pred _) ?_
        exact z_iret dX9_share_118 rfl rfl (by simp [shr, c93])
      · refine z_iload_n dX9_share_96 rfl rfl ?_
        refine z_goto (tgt := 101) dX9_share_97 (by decide) ?_
        refine z_iast dX9_share_101 hk.2.2.2.2.2.1 rfl (by omega) ?_
        refine z_aload_n dX9_share_102 rfl rfl ?_
        refine z_dup dX9_share_103 rfl ?_
        refine z_getI dX9_share_104 fl_X9_24 rfl hk.2.1 (show _ = nI n by simp [z_up, hn]) ?_
        refine z_iconst (v := 1) dX9_share_107 (by decide) ?_
        refine z_iadd dX9_share_108 (nI_1 _) ?_
        refine z_putI dX9_share_109 fl_X9_24 rfl rfl (Or.inl rfl) hk.2.1 ?_
        refine z_aload_n dX9_share_112 rfl rfl ?_
        refine z_getI dX9_share_113 fl_X9_24 rfl hk.2.1 (show _ = nI (n + 1) by simp [z_up]) ?_
        refine z_iconst (v := 1) dX9_share_116 (by decide) ?_
        refine z_isub dX9_share_117 (nI_pred _) ?_
        exact z_iret dX9_share_118 rfl rfl (by simp [shr, c93])
    · have hlt : v < n := by
        rcases Nat.lt_or_ge v n with q | q
        · exact q
        · exact absurd (nI_le q (by omega)) c9
      refine z_aload_n dX9_share_12 rfl rfl ?_
      refine z_getR dX9_share_13 fl_X9_9 rfl hk.2.1 hr.2.2.2.2.2.2.2.1 ?_
      refine z_iload dX9_share_16 rfl ?_
      refine z_iald dX9_share_18 hk.2.2.1 rfl (by omega) rfl ?_
      refine z_iload_n dX9_share_19 rfl rfl ?_
      refine z_icmp_ne (tgt := 48) dX9_share_20 (by decide) (fun c20 => ?_) (fun c20 => ?_)
      · refine z_iinc dX9_share_48 rfl (nI_i _) (by decide) ?_
        show z_V _ _ _ _ _ _ _ _ _ [_, _, _, _, _] _ _
        refine z_goto (tgt := 3) dX9_share_51 (by decide) ?_
        exact ih (v + 1) (by omega) (by omega)
      · refine z_aload_n dX9_share_23 rfl rfl ?_
        refine z_getR dX9_share_24 fl_X9_15 rfl hk.2.1 hr.2.2.2.2.2.2.2.2.1 ?_
        refine z_iload dX9_share_27 rfl ?_
        refine z_iald dX9_share_29 hk.2.2.2.1 rfl (by omega) rfl ?_
        refine z_iload_n dX9_share_30 rfl rfl ?_
        refine z_icmp_ne (tgt := 48) dX9_share_31 (by decide) (fun c31 => ?_) (fun c31 => ?_)
        · refine z_iinc dX9_share_48 rfl (nI_i _) (by decide) ?_
          show z_V _ _ _ _ _ _ _ _ _ [_, _, _, _, _] _ _
          refine z_goto (tgt := 3) dX9_share_51 (by decide) ?_
          exact ih (v + 1) (by omega) (by omega)
        · refine z_aload_n dX9_share_34 rfl rfl ?_
          refine z_getR dX9_share_35 fl_X9_18 rfl hk.2.1 hr.2.2.2.2.2.2.2.2.2.1 ?_
          refine z_iload dX9_share_38 rfl ?_
          refine z_iald dX9_share_40 hk.2.2.2.2.1 rfl (by omega) rfl ?_
          refine z_iload_n dX9_share_41 rfl rfl ?_
          refine z_icmp_ne (tgt := 48) dX9_share_42 (by decide) (fun c42 => ?_) (fun c42 => ?_)
          · refine z_iinc dX9_share_48 rfl (nI_i _) (by decide) ?_
            show z_V _ _ _ _ _ _ _ _ _ [_, _, _, _, _] _ _
            refine z_goto (tgt := 3) dX9_share_51 (by decide) ?_
            exact ih (v + 1) (by omega) (by omega)
          · exact absurd ⟨c20, c31, c42⟩ (hno v hlt)
set_option maxRecDepth 100000 in
set_option maxHeartbeats 4000000 in
theorem sp_share_new {d : Nat} {σ : Nat → Nat → Int32} {τ : Nat → Nat → Int64} {t n : Nat} {k l r : Int32} (ht : t < 4) (hn : σ (tr t + 1) 4 = nI n) (h36 : n < 36) (hno : ∀ j, j < n → ¬ mt σ (tr t) j k l r) : z_MV M_X9_share d 0 0 [.ref (tr t + 1), .int k, .int l, .int r] (124, z_r0, σ, τ) (some (.int (nI n))) (124, z_r0, shr σ (tr t) n k l r, τ) := by
  refine z_MV.of pn_X9_share (Nat.le_of_ble_eq_true rfl) (by simp [Value.category]) rfl ?_
  show z_V _ _ _ _ _ _ _ _ _ [_, _, _, _, _] _ _
  refine z_iconst (v := 0) dX9_share_0 (by decide) ?_
  refine z_istore dX9_share_1 (by decide) ?_
  show z_V _ _ _ _ _ _ _ _ _ [_, _, _, _, _] _ _
  exact share_new_loop ht hn h36 hno (n + 1) 0 (Nat.zero_le _) (by omega)
set_option maxRecDepth 100000 in
set_option maxHeartbeats 4000000 in
theorem sp_takeLocals {d : Nat} {σ : Nat → Nat → Int32} {τ : Nat → Nat → Int64} {t : Nat} (ht : t < 4) : z_MV M_X9_takeLocals d 0 0 [.ref (tr t + 1), .ref 7] (124, z_r0, σ, τ) (none) (124, z_r0, z_row σ (tr t + 5) (va_cpy (σ 7) (σ (tr t + 5)) 0 0 6), τ) := by
  refine z_MV.of pn_X9_takeLocals (Nat.le_of_ble_eq_true rfl) (by simp [Value.category]) rfl ?_
  show z_V _ _ _ _ _ _ _ _ _ [_, _] _ _
  have hk := tr_k ht
  have hr := tr_r ht
  refine z_aload_n dX9_takeLocals_0 rfl rfl ?_
  refine z_iconst (v := 0) dX9_takeLocals_1 (by decide) ?_
  refine z_aload_n dX9_takeLocals_2 rfl rfl ?_
  refine z_getR dX9_takeLocals_3 fl_X9_21 rfl hk.2.1 hr.2.2.2.2.2.2.2.2.2.2.1 ?_
  refine z_iconst (v := 0) dX9_takeLocals_6 (by decide) ?_
  refine z_bipush (v := nI 6) dX9_takeLocals_7 (by decide) ?_
  refine z_copy (sp := 0) (dp := 0) (k := 6) dX9_takeLocals_9 al_X9_32 rfl hk.2.2.2.2.2.1 nI_0.symm nI_0.symm rfl (by decide) (by decide) rfl ?_
  exact z_vret dX9_takeLocals_12 rfl rfl rfl
def rsV (σ : Nat → Nat → Int32) (T : Nat) : Nat → Nat → Nat → Int32
  | 0 => z_up σ (T + 1) 4 0
  | i + 1 => shr (rsV σ T i) T i 1 (nI i) 0
theorem rsV_size (σ : Nat → Nat → Int32) (T i : Nat) : rsV σ T i (T + 1) 4 = nI i := by
  cases i with
  | zero => simp [rsV, z_up, nI_0]
  | succ i => simp [rsV, shr, z_up]
theorem rsV_lefts (σ : Nat → Nat → Int32) (T i : Nat) : ∀ j, j < i → rsV σ T i (T + 3) j = nI j := by
  induction i with
  | zero => intro j h; omega
  | succ i ih =>
    intro j h
    by_cases hj : j = i
    · subst hj; simp [rsV, shr, z_up]
    · have := ih j (by omega)
      simp [rsV, shr, z_up, hj, this]
set_option maxRecDepth 100000 in
set_option maxHeartbeats 4000000 in
theorem vreset_loop {d : Nat} {σ : Nat → Nat → Int32} {τ : Nat → Nat → Int64} {t : Nat} (ht : t < 4) : ∀ (m i : Nat), i ≤ 6 → 6 - i < m → z_V M_X9_reset (d + 1) 0 0 0 0 none (124, z_r0, rsV σ (tr t) 6, τ) 7 [some (.ref (tr t + 1)), some (.int (nI i))] [] (124, z_r0, rsV σ (tr t) i, τ) := by
  have hk := tr_k ht
  have hr := tr_r ht
  intro m
  induction m with
  | zero => intro v _ h; omega
  | succ m ih =>
    intro i hv1 hv2
    refine z_iload_n dX9_reset_7 rfl rfl ?_
    refine z_bipush (v := nI 6) dX9_reset_8 (by decide) ?_
    refine z_icmp_ge (tgt := 27) dX9_reset_10 (by decide) (fun c10 => ?_) (fun c10 => ?_)
    · have e0 : 6 = i := by
        rcases Nat.lt_or_ge i 6 with q | q
        · exact absurd c10 (nI_ge q (by omega))
        · omega
      subst e0
      exact z_vret dX9_reset_27 rfl rfl rfl
    · have hlt : i < 6 := by
        rcases Nat.lt_or_ge i 6 with q | q
        · exact q
        · exact absurd (nI_le q (by omega)) c10
      refine z_aload_n dX9_reset_13 rfl rfl ?_
      refine z_iconst (v := 1) dX9_reset_14 (by decide) ?_
      refine z_iload_n dX9_reset_15 rfl rfl ?_
      refine z_iconst (v := 0) dX9_reset_16 (by decide) ?_
      refine z_cV1 dX9_reset_17 ml_X9_28 (sp_share_new ht (rsV_size σ (tr t) i) (by omega) (fun j hj q => absurd ((nI_eq (by omega) (by omega)).mp ((rsV_lefts σ (tr t) i j hj).symm.trans q.2.1)) (by omega))) hk.2.1 ⟨by decide, rfl⟩ rfl rfl (Nat.le_of_ble_eq_true rfl) ?_
      refine z_pop dX9_reset_20 rfl ?_
      refine z_iinc dX9_reset_21 rfl (nI_i _) (by decide) ?_
      show z_V _ _ _ _ _ _ _ _ _ [_, _] _ _
      refine z_goto (tgt := 7) dX9_reset_24 (by decide) ?_
      exact ih (i + 1) (by omega) (by omega)
set_option maxRecDepth 100000 in
set_option maxHeartbeats 4000000 in
theorem sp_vreset {d : Nat} {σ : Nat → Nat → Int32} {τ : Nat → Nat → Int64} {t : Nat} (ht : t < 4) : z_MV M_X9_reset (d + 1) 0 0 [.ref (tr t + 1)] (124, z_r0, σ, τ) (none) (124, z_r0, rsV σ (tr t) 6, τ) := by
  refine z_MV.of pn_X9_reset (Nat.le_of_ble_eq_true rfl) (by simp [Value.category]) rfl ?_
  show z_V _ _ _ _ _ _ _ _ _ [_, _] _ _
  have hk := tr_k ht
  have hr := tr_r ht
  refine z_aload_n dX9_reset_0 rfl rfl ?_
  refine z_iconst (v := 0) dX9_reset_1 (by decide) ?_
  refine z_putI dX9_reset_2 fl_X9_24 rfl rfl (Or.inl rfl) hk.2.1 ?_
  refine z_iconst (v := 0) dX9_reset_5 (by decide) ?_
  refine z_istore_n dX9_reset_6 rfl (by decide) ?_
  show z_V _ _ _ _ _ _ _ _ _ [_, _] _ _
  exact vreset_loop ht 7 0 (by omega) (by omega)
