/-! PART 27: TraceMaker.sortOut, combine, guard -/
def pbS (σ : Nat → Nat → Int32) (T : Nat) (x y : Int32) : Nat → Nat → Int32 :=
  if x = nI 2 then z_up (z_up (z_up (z_up σ (T + 14) (tN (σ T 9)) x) (T + 15) (tN (σ T 9)) y) T 9 (nI (tN (σ T 9) + 1))) T 5 (σ T 5 + 1)
  else z_up (z_up (z_up σ (T + 14) (tN (σ T 9)) x) (T + 15) (tN (σ T 9)) y) T 9 (nI (tN (σ T 9) + 1))
def phS (σ : Nat → Nat → Int32) (T : Nat) (x : Int32) : Nat → Nat → Int32 := z_up (z_up σ (T + 13) (tN (σ T 4)) x) T 4 (nI (tN (σ T 4) + 1))
theorem sp_pbS {d : Nat} {σ : Nat → Nat → Int32} {τ : Nat → Nat → Int64} {t e : Nat} {x y : Int32} (ht : t < 4) (he : σ (tr t) 9 = nI e) (hl : e < 30) : z_MV M_X7_putInBody d 0 0 [.ref (tr t), .int x, .int y] (124, z_r0, σ, τ) none (124, z_r0, pbS σ (tr t) x y, τ) := by
  unfold pbS
  rw [he, tN_nI (by omega)]
  split
  next h => subst h; exact sp_putInBody2 ht he hl
  next h => exact sp_putInBody0 ht he hl h
theorem sp_phS {d : Nat} {σ : Nat → Nat → Int32} {τ : Nat → Nat → Int64} {t e : Nat} {x : Int32} (ht : t < 4) (he : σ (tr t) 4 = nI e) (hl : e < 30) : z_MV M_X7_putInHead d 0 0 [.ref (tr t), .int x] (124, z_r0, σ, τ) none (124, z_r0, phS σ (tr t) x, τ) := by
  unfold phS
  rw [he, tN_nI (by omega)]
  exact sp_putInHead ht he hl
theorem pbS_lo {σ : Nat → Nat → Int32} {t b : Nat} {x y : Int32} (h : b < 28) : pbS σ (tr t) x y b = σ b := by
  unfold pbS
  split
  · rw [z_up_ne _ _ _ (tr_ne0 h), z_up_ne _ _ _ (tr_ne0 h), z_up_ne _ _ _ (tr_ne h 15), z_up_ne _ _ _ (tr_ne h 14)]
  · rw [z_up_ne _ _ _ (tr_ne0 h), z_up_ne _ _ _ (tr_ne h 15), z_up_ne _ _ _ (tr_ne h 14)]
theorem phS_lo {σ : Nat → Nat → Int32} {t b : Nat} {x : Int32} (h : b < 28) : phS σ (tr t) x b = σ b := by
  unfold phS
  rw [z_up_ne _ _ _ (tr_ne0 h), z_up_ne _ _ _ (tr_ne h 13)]
def soT (σ : Nat → Nat → Int32) (T v : Nat) : Nat → Nat → Int32 :=
  if ¬ σ 23 v = 0 then pbS σ T (σ 23 v) (σ 24 v)
  else if σ 25 (tN (σ 24 v)) = 0 then σ
  else if σ 26 (tN (σ 24 v)) = 0 then pbS σ T (σ 23 v) (σ 24 v)
  else phS σ T (σ 24 v)
theorem soT_lo {σ : Nat → Nat → Int32} {t v b : Nat} (h : b < 28) : soT σ (tr t) v b = σ b := by
  unfold soT
  split
  · exact pbS_lo h
  · split
    · rfl
    · split
      · exact pbS_lo h
      · exact phS_lo h
theorem soT_9 {σ : Nat → Nat → Int32} {t v : Nat} (hv : v < 30) (h : ∃ e, e ≤ v ∧ σ (tr t) 9 = nI e) : ∃ e, e ≤ v + 1 ∧ soT σ (tr t) v (tr t) 9 = nI e := by
  obtain ⟨e, h1, h2⟩ := h
  have hp : ∀ x y, pbS σ (tr t) x y (tr t) 9 = nI (e + 1) := fun x y => by
    unfold pbS
    rw [h2, tN_nI (by omega)]
    split <;> simp [z_up]
  unfold soT
  split
  · exact ⟨e + 1, by omega, hp _ _⟩
  · split
    · exact ⟨e, by omega, h2⟩
    · split
      · exact ⟨e + 1, by omega, hp _ _⟩
      · exact ⟨e, by omega, by simp [phS, z_up, h2]⟩
theorem soT_4 {σ : Nat → Nat → Int32} {t v : Nat} (hv : v < 30) (h : ∃ e, e ≤ v ∧ σ (tr t) 4 = nI e) : ∃ e, e ≤ v + 1 ∧ soT σ (tr t) v (tr t) 4 = nI e := by
  obtain ⟨e, h1, h2⟩ := h
  have hp : ∀ x y, pbS σ (tr t) x y (tr t) 4 = nI e := fun x y => by
    unfold pbS
    split <;> simp [z_up, h2]
  unfold soT
  split
  · exact ⟨e, by omega, hp _ _⟩
  · split
    · exact ⟨e, by omega, h2⟩
    · split
      · exact ⟨e, by omega, hp _ _⟩
      · exact ⟨e + 1, by omega, by simp [phS, z_up, h2, tN_nI (show e < 2 ^ 31 by omega)]⟩
def soS (T : Nat) : Nat → Nat → (Nat → Nat → Int32) → Nat → Nat → Int32
  | 0, _, σ => σ
  | m + 1, v, σ => soS T m (v + 1) (soT σ T v)
def sI (σ : Nat → Nat → Int32) (t n v : Nat) : Prop := σ 19 3 = nI n ∧ n ≤ 30 ∧ (∀ c, c < n → ∃ q, q < 36 ∧ σ 24 c = nI q) ∧ (∃ e, e ≤ v ∧ σ (tr t) 9 = nI e) ∧ ∃ e, e ≤ v ∧ σ (tr t) 4 = nI e
theorem sI_s {σ : Nat → Nat → Int32} {t n v : Nat} (hv : v < n) (h : sI σ t n v) : sI (soT σ (tr t) v) t n (v + 1) := by
  obtain ⟨h1, h2, h3, h4, h5⟩ := h
  refine ⟨by rw [soT_lo (by decide)]; exact h1, h2, by rw [soT_lo (by decide)]; exact h3, soT_9 (by omega) h4, soT_4 (by omega) h5⟩
set_option maxRecDepth 100000 in
set_option maxHeartbeats 4000000 in
theorem sortOut_loop {d : Nat} {τ : Nat → Nat → Int64} {t n : Nat} (ht : t < 4) : ∀ (m v : Nat) (σ : Nat → Nat → Int32) (w3 w4 : Option Value), sI σ t n v → v + m = n → z_V M_X8_sortOut (d + 1) 0 0 0 0 none (124, z_r0, soS (tr t) m v σ, τ) 2 [some (.ref 19), some (.ref (tr t)), some (.int (nI v)), w3, w4] [] (124, z_r0, σ, τ) := by
  have hk := tr_k ht
  have hr := tr_r ht
  intro m
  induction m using Nat.strongRecOn with
  | ind m ih =>
    intro v σ w3 w4 hI hv
    have hn30 := hI.2.1
    refine z_iload_n dX8_sortOut_2 rfl rfl ?_
    refine z_aload_n dX8_sortOut_3 rfl rfl ?_
    refine z_getI dX8_sortOut_4 fl_X8_84 rfl rfl hI.1 ?_
    refine z_icmp_ge (tgt := 91) dX8_sortOut_7 (by decide) (fun c7 => ?_) (fun c7 => ?_)
    · have e0 : m = 0 := by
        rcases Nat.lt_or_ge v n with q | q
        · exact absurd c7 (nI_ge q (by omega))
        · omega
      subst e0
      exact z_vret dX8_sortOut_91 rfl rfl rfl
    · have hlt : v < n := by
        rcases Nat.lt_or_ge v n with q | q
        · exact q
        · exact absurd (nI_le q (by omega)) c7
      obtain ⟨m, rfl⟩ : ∃ k, m = k + 1 := ⟨m - 1, by omega⟩
      obtain ⟨q, h36, hq⟩ := hI.2.2.1 v hlt
      obtain ⟨e9, h9, he9⟩ := hI.2.2.2.1
      obtain ⟨e4, h4, he4⟩ := hI.2.2.2.2
      have hq2 : tN (σ 24 v) = q := by rw [hq, tN_nI (by omega)]
      have hIn := sI_s hlt hI
      refine z_aload_n dX8_sortOut_10 rfl rfl ?_
      refine z_getR dX8_sortOut_11 fl_X8_18 rfl rfl rfl ?_
      refine z_iload_n dX8_sortOut_14 rfl rfl ?_
      refine z_iald dX8_sortOut_15 rfl rfl (by omega) rfl ?_
      refine z_istore_n dX8_sortOut_16 rfl (by decide) ?_
      show z_V _ _ _ _ _ _ _ _ _ [_, _, _, _, _] _ _
      refine z_aload_n dX8_sortOut_17 rfl rfl ?_
      refine z_getR dX8_sortOut_18 fl_X8_22 rfl rfl rfl ?_
      refine z_iload_n dX8_sortOut_21 rfl rfl ?_
      refine z_iald dX8_sortOut_22 rfl rfl (by omega) hq ?_
      refine z_istore dX8_sortOut_23 (by decide) ?_
      show z_V _ _ _ _ _ _ _ _ _ [_, _, _, _, _] _ _
      refine z_iload_n dX8_sortOut_25 rfl rfl ?_
      refine z_if_eq (tgt := 39) dX8_sortOut_26 (by decide) (fun c26 => ?_) (fun c26 => ?_)
      · refine z_aload_n dX8_sortOut_39 rfl rfl ?_
        refine z_getR dX8_sortOut_40 fl_X8_25 rfl rfl rfl ?_
        refine z_iload dX8_sortOut_43 rfl ?_
        refine z_zald dX8_sortOut_45 rfl rfl (by omega) rfl ?_
        refine z_if_eq (tgt := 68) dX8_sortOut_46 (by decide) (fun c46 => ?_) (fun c46 => ?_)
        · have e1 : soT σ (tr t) v = σ := by unfold soT; rw [if_neg (fun z => z c26), hq2, if_pos c46]
          refine z_aload_n dX8_sortOut_68 rfl rfl ?_
          refine z_getR dX8_sortOut_69 fl_X8_25 rfl rfl rfl ?_
          refine z_iload dX8_sortOut_72 rfl ?_
          refine z_zald dX8_sortOut_74 rfl rfl (by omega) rfl ?_
          refine z_if_eq (tgt := 85) dX8_sortOut_75 (by decide) (fun _ => ?_) (fun c_ => absurd (c46) c_)
          refine z_iinc dX8_sortOut_85 rfl (nI_i _) (by decide) ?_
          show z_V _ _ _ _ _ _ _ _ _ [_, _, _, _, _] _ _
          refine z_goto (tgt := 2) dX8_sortOut_88 (by decide) ?_
          exact z_Vx e1 (ih m (by omega) (v + 1) _ _ _ hIn (by omega))
        · refine z_aload_n dX8_sortOut_49 rfl rfl ?_
          refine z_getR dX8_sortOut_50 fl_X8_29 rfl rfl rfl ?_
          refine z_iload dX8_sortOut_53 rfl ?_
          refine z_zald dX8_sortOut_55 rfl rfl (by omega) rfl ?_
          refine z_if_eq (tgt := 68) dX8_sortOut_56 (by decide) (fun c56 => ?_) (fun c56 => ?_)
          · have e1 : soT σ (tr t) v = pbS σ (tr t) (σ 23 v) (nI q) := by unfold soT; rw [if_neg (fun z => z c26), hq2, if_neg c46, if_pos c56, hq]
            refine z_aload_n dX8_sortOut_68 rfl rfl ?_
            refine z_getR dX8_sortOut_69 fl_X8_25 rfl rfl rfl ?_
            refine z_iload dX8_sortOut_72 rfl ?_
            refine z_zald dX8_sortOut_74 rfl rfl (by omega) rfl ?_
            refine z_if_eq (tgt := 85) dX8_sortOut_75 (by decide) (fun c_ => absurd c_ (c46)) (fun _ => ?_)
            refine z_aload_n dX8_sortOut_78 rfl rfl ?_
            refine z_iload_n dX8_sortOut_79 rfl rfl ?_
            refine z_iload dX8_sortOut_80 rfl ?_
            refine z_cV0 dX8_sortOut_82 ml_X8_165 (sp_pbS ht he9 (by omega)) hk.1 ⟨by decide, rfl⟩ rfl rfl (Nat.le_of_ble_eq_true rfl) ?_
            refine z_iinc dX8_sortOut_85 rfl (nI_i _) (by decide) ?_
            show z_V _ _ _ _ _ _ _ _ _ [_, _, _, _, _] _ _
            refine z_goto (tgt := 2) dX8_sortOut_88 (by decide) ?_
            exact z_Vx e1 (ih m (by omega) (v + 1) _ _ _ hIn (by omega))
          · have e1 : soT σ (tr t) v = phS σ (tr t) (nI q) := by unfold soT; rw [if_neg (fun z => z c26), hq2, if_neg c46, if_neg c56, hq]
            refine z_aload_n dX8_sortOut_59 rfl rfl ?_
            refine z_iload dX8_sortOut_60 rfl ?_
            refine z_cV0 dX8_sortOut_62 ml_X8_168 (sp_phS ht he4 (by omega)) hk.1 ⟨by decide, rfl⟩ rfl rfl (Nat.le_of_ble_eq_true rfl) ?_
            refine z_goto (tgt := 85) dX8_sortOut_65 (by decide) ?_
            refine z_iinc dX8_sortOut_85 rfl (nI_i _) (by decide) ?_
            show z_V _ _ _ _ _ _ _ _ _ [_, _, _, _, _] _ _
            refine z_goto (tgt := 2) dX8_sortOut_88 (by decide) ?_
            exact z_Vx e1 (ih m (by omega) (v + 1) _ _ _ hIn (by omega))
      · have e1 : soT σ (tr t) v = pbS σ (tr t) (σ 23 v) (nI q) := by unfold soT; rw [if_pos c26, hq]
        refine z_aload_n dX8_sortOut_29 rfl rfl ?_
        refine z_iload_n dX8_sortOut_30 rfl rfl ?_
        refine z_iload dX8_sortOut_31 rfl ?_
        refine z_cV0 dX8_sortOut_33 ml_X8_165 (sp_pbS ht he9 (by omega)) hk.1 ⟨by decide, rfl⟩ rfl rfl (Nat.le_of_ble_eq_true rfl) ?_
        refine z_goto (tgt := 85) dX8_sortOut_36 (by decide) ?_
        refine z_iinc dX8_sortOut_85 rfl (nI_i _) (by decide) ?_
        show z_V _ _ _ _ _ _ _ _ _ [_, _, _, _, _] _ _
        refine z_goto (tgt := 2) dX8_sortOut_88 (by decide) ?_
        exact z_Vx e1 (ih m (by omega) (v + 1) _ _ _ hIn (by omega))
set_option maxRecDepth 100000 in
set_option maxHeartbeats 4000000 in
theorem sp_sortOut {d : Nat} {σ : Nat → Nat → Int32} {τ : Nat → Nat → Int64} {t n : Nat} (ht : t < 4) (hI : sI σ t n 0) : z_MV M_X8_sortOut (d + 1) 0 0 [.ref 19, .ref (tr t)] (124, z_r0, σ, τ) (none) (124, z_r0, soS (tr t) n 0 σ, τ) := by
  refine z_MV.of pn_X8_sortOut (Nat.le_of_ble_eq_true rfl) (by simp [Value.category]) rfl ?_
  show z_V _ _ _ _ _ _ _ _ _ [_, _, _, _, _] _ _
  have hk := tr_k ht
  have hr := tr_r ht
  refine z_iconst (v := 0) dX8_sortOut_0 (by decide) ?_
  refine z_istore_n dX8_sortOut_1 rfl (by decide) ?_
  show z_V _ _ _ _ _ _ _ _ _ [_, _, _, _, _] _ _
  exact sortOut_loop ht n 0 σ none none hI (by omega)
def cmb (σ : Nat → Nat → Int32) (T n op a b : Nat) : Nat × (Nat → Nat → Int32) :=
  if σ (T + 2) a = 0 ∧ σ (T + 2) b = 0 then (shI σ T n 0 (wk op (σ (T + 3) a) (σ (T + 3) b)) 0, shS σ T n 0 (wk op (σ (T + 3) a) (σ (T + 3) b)) 0)
  else (shI σ T n (nI op) (nI a) (nI b), if shI σ T n (nI op) (nI a) (nI b) < n then σ else cmS (shr σ T n (nI op) (nI a) (nI b)) 0 (nI n))
set_option maxRecDepth 100000 in
set_option maxHeartbeats 4000000 in
theorem sp_combineK {d : Nat} {σ : Nat → Nat → Int32} {τ : Nat → Nat → Int64} {t n c op a b : Nat} (ht : t < 4) (hn : σ (tr t + 1) 4 = nI n) (h36 : n < 36) (hc : σ 19 3 = nI c) (hc30 : c < 30) (h3 : 3 ≤ op) (h8 : op ≤ 8) (ha : a < 36) (hb : b < 36) (hz : σ (tr t + 2) a = 0 ∧ σ (tr t + 2) b = 0) : z_MV M_X8_combine (d + 1) 0 0 [.ref 19, .ref (tr t + 1), .int (nI op), .int (nI a), .int (nI b)] (124, z_r0, σ, τ) (some (.int (nI (cmb σ (tr t) n op a b).1))) (124, z_r0, (cmb σ (tr t) n op a b).2, τ) := by
  refine z_MV.of pn_X8_combine (Nat.le_of_ble_eq_true rfl) (by simp [Value.category]) rfl ?_
  show z_V _ _ _ _ _ _ _ _ _ [_, _, _, _, _, _, _] _ _
  have hk := tr_k ht
  have hr := tr_r ht
  refine z_aload_n dX8_combine_0 rfl rfl ?_
  refine z_iload_n dX8_combine_1 rfl rfl ?_
  refine z_cV1 dX8_combine_2 ml_X8_123 (sp_isNumber ht ha) hk.2.1 ⟨by decide, rfl⟩ rfl rfl (Nat.le_of_ble_eq_true rfl) ?_
  refine z_if_eq (tgt := 45) dX8_combine_5 (by decide) (fun c5 => ?_) (fun c5 => ?_)
  · rw [b2i_t hz.1] at c5
    exact absurd c5 (by decide)
  · refine z_aload_n dX8_combine_8 rfl rfl ?_
    refine z_iload dX8_combine_9 rfl ?_
    refine z_cV1 dX8_combine_11 ml_X8_123 (sp_isNumber ht hb) hk.2.1 ⟨by decide, rfl⟩ rfl rfl (Nat.le_of_ble_eq_true rfl) ?_
    refine z_if_eq (tgt := 45) dX8_combine_14 (by decide) (fun c14 => ?_) (fun c14 => ?_)
    · rw [b2i_t hz.2] at c14
      exact absurd c14 (by decide)
    · refine z_iload_n dX8_combine_17 rfl rfl ?_
      refine z_aload_n dX8_combine_18 rfl rfl ?_
      refine z_getR dX8_combine_19 fl_X8_127 rfl hk.2.1 hr.2.2.2.2.2.2.2.2.1 ?_
      refine z_iload_n dX8_combine_22 rfl rfl ?_
      refine z_iald dX8_combine_23 hk.2.2.2.1 rfl (by omega) rfl ?_
      refine z_aload_n dX8_combine_24 rfl rfl ?_
      refine z_getR dX8_combine_25 fl_X8_127 rfl hk.2.1 hr.2.2.2.2.2.2.2.2.1 ?_
      refine z_iload dX8_combine_28 rfl ?_
      refine z_iald dX8_combine_30 hk.2.2.2.1 rfl (by omega) rfl ?_
      refine z_cS1 dX8_combine_31 ml_X8_130 (sp_result h3 h8) rfl rfl (Nat.le_of_ble_eq_true rfl) ?_
      refine z_istore dX8_combine_34 (by decide) ?_
      show z_V _ _ _ _ _ _ _ _ _ [_, _, _, _, _, _, _] _ _
      refine z_aload_n dX8_combine_36 rfl rfl ?_
      refine z_iconst (v := 0) dX8_combine_37 (by decide) ?_
      refine z_iload dX8_combine_38 rfl ?_
      refine z_iconst (v := 0) dX8_combine_40 (by decide) ?_
      refine z_cV1 dX8_combine_41 ml_X8_95 (sp_shareF ht hn h36) hk.2.1 ⟨by decide, rfl⟩ rfl rfl (Nat.le_of_ble_eq_true rfl) ?_
      exact z_iret dX8_combine_44 rfl (by simp [cmb, hz]) (by simp [cmb, hz])
set_option maxRecDepth 100000 in
set_option maxHeartbeats 4000000 in
theorem sp_combineO {d : Nat} {σ : Nat → Nat → Int32} {τ : Nat → Nat → Int64} {t n c op a b : Nat} (ht : t < 4) (hn : σ (tr t + 1) 4 = nI n) (h36 : n < 36) (hc : σ 19 3 = nI c) (hc30 : c < 30) (h3 : 3 ≤ op) (h8 : op ≤ 8) (ha : a < 36) (hb : b < 36) (hz : ¬ (σ (tr t + 2) a = 0 ∧ σ (tr t + 2) b = 0)) (hs : shI σ (tr t) n (nI op) (nI a) (nI b) < n) : z_MV M_X8_combine (d + 1) 0 0 [.ref 19, .ref (tr t + 1), .int (nI op), .int (nI a), .int (nI b)] (124, z_r0, σ, τ) (some (.int (nI (cmb σ (tr t) n op a b).1))) (124, z_r0, (cmb σ (tr t) n op a b).2, τ) := by
  refine z_MV.of pn_X8_combine (Nat.le_of_ble_eq_true rfl) (by simp [Value.category]) rfl ?_
  show z_V _ _ _ _ _ _ _ _ _ [_, _, _, _, _, _, _] _ _
  have hk := tr_k ht
  have hr := tr_r ht
  have hS : shS σ (tr t) n (nI op) (nI a) (nI b) = σ := if_pos hs
  refine z_aload_n dX8_combine_0 rfl rfl ?_
  refine z_iload_n dX8_combine_1 rfl rfl ?_
  refine z_cV1 dX8_combine_2 ml_X8_123 (sp_isNumber ht ha) hk.2.1 ⟨by decide, rfl⟩ rfl rfl (Nat.le_of_ble_eq_true rfl) ?_
  refine z_if_eq (tgt := 45) dX8_combine_5 (by decide) (fun c5 => ?_) (fun c5 => ?_)
  · refine z_aload_n dX8_combine_45 rfl rfl ?_
    refine z_getI dX8_combine_46 fl_X8_133 rfl hk.2.1 hn ?_
    refine z_istore dX8_combine_49 (by decide) ?_
    show z_V _ _ _ _ _ _ _ _ _ [_, _, _, _, _, _, _] _ _
    refine z_aload_n dX8_combine_51 rfl rfl ?_
    refine z_iload_n dX8_combine_52 rfl rfl ?_
    refine z_iload_n dX8_combine_53 rfl rfl ?_
    refine z_iload dX8_combine_54 rfl ?_
    refine z_cV1 dX8_combine_56 ml_X8_95 (sp_shareF ht hn h36) hk.2.1 ⟨by decide, rfl⟩ rfl rfl (Nat.le_of_ble_eq_true rfl) ?_
    rw [hS]
    refine z_istore dX8_combine_59 (by decide) ?_
    show z_V _ _ _ _ _ _ _ _ _ [_, _, _, _, _, _, _] _ _
    refine z_aload_n dX8_combine_61 rfl rfl ?_
    refine z_getI dX8_combine_62 fl_X8_133 rfl hk.2.1 hn ?_
    refine z_iload dX8_combine_65 rfl ?_
    refine z_icmp_le (tgt := 77) dX8_combine_67 (by decide) (fun _ => ?_) (fun c_ => absurd (Int32.le_refl _) c_)
    refine z_iload dX8_combine_77 rfl ?_
    exact z_iret dX8_combine_79 rfl (by simp [cmb, hz, hs]) (by simp [cmb, hz, hs])
  · refine z_aload_n dX8_combine_8 rfl rfl ?_
    refine z_iload dX8_combine_9 rfl ?_
    refine z_cV1 dX8_combine_11 ml_X8_123 (sp_isNumber ht hb) hk.2.1 ⟨by decide, rfl⟩ rfl rfl (Nat.le_of_ble_eq_true rfl) ?_
    refine z_if_eq (tgt := 45) dX8_combine_14 (by decide) (fun c14 => ?_) (fun c14 => ?_)
    · refine z_aload_n dX8_combine_45 rfl rfl ?_
      refine z_getI dX8_combine_46 fl_X8_133 rfl hk.2.1 hn ?_
      refine z_istore dX8_combine_49 (by decide) ?_
      show z_V _ _ _ _ _ _ _ _ _ [_, _, _, _, _, _, _] _ _
      refine z_aload_n dX8_combine_51 rfl rfl ?_
      refine z_iload_n dX8_combine_52 rfl rfl ?_
      refine z_iload_n dX8_combine_53 rfl rfl ?_
      refine z_iload dX8_combine_54 rfl ?_
      refine z_cV1 dX8_combine_56 ml_X8_95 (sp_shareF ht hn h36) hk.2.1 ⟨by decide, rfl⟩ rfl rfl (Nat.le_of_ble_eq_true rfl) ?_
      rw [hS]
      refine z_istore dX8_combine_59 (by decide) ?_
      show z_V _ _ _ _ _ _ _ _ _ [_, _, _, _, _, _, _] _ _
      refine z_aload_n dX8_combine_61 rfl rfl ?_
      refine z_getI dX8_combine_62 fl_X8_133 rfl hk.2.1 hn ?_
      refine z_iload dX8_combine_65 rfl ?_
      refine z_icmp_le (tgt := 77) dX8_combine_67 (by decide) (fun _ => ?_) (fun c_ => absurd (Int32.le_refl _) c_)
      refine z_iload dX8_combine_77 rfl ?_
      exact z_iret dX8_combine_79 rfl (by simp [cmb, hz, hs]) (by simp [cmb, hz, hs])
    · exact absurd ⟨by
        rcases Decidable.em (σ (tr t + 2) a = 0) with q | q
        · exact q
        · rw [b2i_f q] at c5; exact absurd rfl c5, by
        rcases Decidable.em (σ (tr t + 2) b = 0) with q | q
        · exact q
        · rw [b2i_f q] at c14; exact absurd rfl c14⟩ hz
set_option maxRecDepth 100000 in
set_option maxHeartbeats 4000000 in
theorem sp_combineN {d : Nat} {σ : Nat → Nat → Int32} {τ : Nat → Nat → Int64} {t n c op a b : Nat} (ht : t < 4) (hn : σ (tr t + 1) 4 = nI n) (h36 : n < 36) (hc : σ 19 3 = nI c) (hc30 : c < 30) (h3 : 3 ≤ op) (h8 : op ≤ 8) (ha : a < 36) (hb : b < 36) (hz : ¬ (σ (tr t + 2) a = 0 ∧ σ (tr t + 2) b = 0)) (hs : ¬ shI σ (tr t) n (nI op) (nI a) (nI b) < n) : z_MV M_X8_combine (d + 1) 0 0 [.ref 19, .ref (tr t + 1), .int (nI op), .int (nI a), .int (nI b)] (124, z_r0, σ, τ) (some (.int (nI (cmb σ (tr t) n op a b).1))) (124, z_r0, (cmb σ (tr t) n op a b).2, τ) := by
  refine z_MV.of pn_X8_combine (Nat.le_of_ble_eq_true rfl) (by simp [Value.category]) rfl ?_
  show z_V _ _ _ _ _ _ _ _ _ [_, _, _, _, _, _, _] _ _
  have hk := tr_k ht
  have hr := tr_r ht
  have hS : shS σ (tr t) n (nI op) (nI a) (nI b) = shr σ (tr t) n (nI op) (nI a) (nI b) := if_neg hs
  have hI : shI σ (tr t) n (nI op) (nI a) (nI b) = n := by have := fnd_le (mtB σ (tr t) (nI op) (nI a) (nI b)) n; unfold shI at *; omega
  refine z_aload_n dX8_combine_0 rfl rfl ?_
  refine z_iload_n dX8_combine_1 rfl rfl ?_
  refine z_cV1 dX8_combine_2 ml_X8_123 (sp_isNumber ht ha) hk.2.1 ⟨by decide, rfl⟩ rfl rfl (Nat.le_of_ble_eq_true rfl) ?_
  refine z_if_eq (tgt := 45) dX8_combine_5 (by decide) (fun c5 => ?_) (fun c5 => ?_)
  · refine z_aload_n dX8_combine_45 rfl rfl ?_
    refine z_getI dX8_combine_46 fl_X8_133 rfl hk.2.1 hn ?_
    refine z_istore dX8_combine_49 (by decide) ?_
    show z_V _ _ _ _ _ _ _ _ _ [_, _, _, _, _, _, _] _ _
    refine z_aload_n dX8_combine_51 rfl rfl ?_
    refine z_iload_n dX8_combine_52 rfl rfl ?_
    refine z_iload_n dX8_combine_53 rfl rfl ?_
    refine z_iload dX8_combine_54 rfl ?_
    refine z_cV1 dX8_combine_56 ml_X8_95 (sp_shareF ht hn h36) hk.2.1 ⟨by decide, rfl⟩ rfl rfl (Nat.le_of_ble_eq_true rfl) ?_
    rw [hS, hI]
    refine z_istore dX8_combine_59 (by decide) ?_
    show z_V _ _ _ _ _ _ _ _ _ [_, _, _, _, _, _, _] _ _
    refine z_aload_n dX8_combine_61 rfl rfl ?_
    refine z_getI dX8_combine_62 fl_X8_133 rfl hk.2.1 (show _ = nI (n + 1) by simp [shr, z_up]) ?_
    refine z_iload dX8_combine_65 rfl ?_
    refine z_icmp_le (tgt := 77) dX8_combine_67 (by decide) (fun c_ => absurd c_ (nI_ge (by omega) (by omega))) (fun _ => ?_)
    refine z_aload_n dX8_combine_70 rfl rfl ?_
    refine z_iconst (v := 0) dX8_combine_71 (by decide) ?_
    refine z_iload dX8_combine_72 rfl ?_
    refine z_cV0 dX8_combine_74 ml_X8_112 (sp_came (show _ = nI c by simp [shr, z_up, hc, tr_ne (t := t) (show 19 < 28 by decide), tr_ne' (t := t) (show 19 < 28 by decide)]) hc30) rfl ⟨by decide, rfl⟩ rfl rfl (Nat.le_of_ble_eq_true rfl) ?_
    refine z_iload dX8_combine_77 rfl ?_
    exact z_iret dX8_combine_79 rfl (by simp [cmb, hz, hs, hI]) (by simp [cmb, hz, hs])
  · refine z_aload_n dX8_combine_8 rfl rfl ?_
    refine z_iload dX8_combine_9 rfl ?_
    refine z_cV1 dX8_combine_11 ml_X8_123 (sp_isNumber ht hb) hk.2.1 ⟨by decide, rfl⟩ rfl rfl (Nat.le_of_ble_eq_true rfl) ?_
    refine z_if_eq (tgt := 45) dX8_combine_14 (by decide) (fun c14 => ?_) (fun c14 => ?_)
    · refine z_aload_n dX8_combine_45 rfl rfl ?_
      refine z_getI dX8_combine_46 fl_X8_133 rfl hk.2.1 hn ?_
      refine z_istore dX8_combine_49 (by decide) ?_
      show z_V _ _ _ _ _ _ _ _ _ [_, _, _, _, _, _, _] _ _
      refine z_aload_n dX8_combine_51 rfl rfl ?_
      refine z_iload_n dX8_combine_52 rfl rfl ?_
      refine z_iload_n dX8_combine_53 rfl rfl ?_
      refine z_iload dX8_combine_54 rfl ?_
      refine z_cV1 dX8_combine_56 ml_X8_95 (sp_shareF ht hn h36) hk.2.1 ⟨by decide, rfl⟩ rfl rfl (Nat.le_of_ble_eq_true rfl) ?_
      rw [hS, hI]
      refine z_istore dX8_combine_59 (by decide) ?_
      show z_V _ _ _ _ _ _ _ _ _ [_, _, _, _, _, _, _] _ _
      refine z_aload_n dX8_combine_61 rfl rfl ?_
      refine z_getI dX8_combine_62 fl_X8_133 rfl hk.2.1 (show _ = nI (n + 1) by simp [shr, z_up]) ?_
      refine z_iload dX8_combine_65 rfl ?_
      refine z_icmp_le (tgt := 77) dX8_combine_67 (by decide) (fun c_ => absurd c_ (nI_ge (by omega) (by omega))) (fun _ => ?_)
      refine z_aload_n dX8_combine_70 rfl rfl ?_
      refine z_iconst (v := 0) dX8_combine_71 (by decide) ?_
      refine z_iload dX8_combine_72 rfl ?_
      refine z_cV0 dX8_combine_74 ml_X8_112 (sp_came (show _ = nI c by simp [shr, z_up, hc, tr_ne (t := t) (show 19 < 28 by decide), tr_ne' (t := t) (show 19 < 28 by decide)]) hc30) rfl ⟨by decide, rfl⟩ rfl rfl (Nat.le_of_ble_eq_true rfl) ?_
      refine z_iload dX8_combine_77 rfl ?_
      exact z_iret dX8_combine_79 rfl (by simp [cmb, hz, hs, hI]) (by simp [cmb, hz, hs])
    · exact absurd ⟨by
        rcases Decidable.em (σ (tr t + 2) a = 0) with q | q
        · exact q
        · rw [b2i_f q] at c5; exact absurd rfl c5, by
        rcases Decidable.em (σ (tr t + 2) b = 0) with q | q
        · exact q
        · rw [b2i_f q] at c14; exact absurd rfl c14⟩ hz
theorem sp_combine {d : Nat} {σ : Nat → Nat → Int32} {τ : Nat → Nat → Int64} {t n c op a b : Nat} (ht : t < 4) (hn : σ (tr t + 1) 4 = nI n) (h36 : n < 36) (hc : σ 19 3 = nI c) (hc30 : c < 30) (h3 : 3 ≤ op) (h8 : op ≤ 8) (ha : a < 36) (hb : b < 36) : z_MV M_X8_combine (d + 1) 0 0 [.ref 19, .ref (tr t + 1), .int (nI op), .int (nI a), .int (nI b)] (124, z_r0, σ, τ) (some (.int (nI (cmb σ (tr t) n op a b).1))) (124, z_r0, (cmb σ (tr t) n op a b).2, τ) := by
  by_cases hz : σ (tr t + 2) a = 0 ∧ σ (tr t + 2) b = 0
  · exact sp_combineK ht hn h36 hc hc30 h3 h8 ha hb hz
  · by_cases hs : shI σ (tr t) n (nI op) (nI a) (nI b) < n
    · exact sp_combineO ht hn h36 hc hc30 h3 h8 ha hb hz hs
    · exact sp_combineN ht hn h36 hc hc30 h3 h8 ha hb hz hs
