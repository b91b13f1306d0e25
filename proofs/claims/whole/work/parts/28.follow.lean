/-! PART 28: TraceMaker.guard, follow -/
theorem mkN_s (σ : Nat → Nat → Int32) (a i : Nat) : mkN σ a (i + 1) = z_up (mkN σ a i) 25 (tN (σ a i)) 1 := rfl
theorem putG_lo {σ : Nat → Nat → Int32} {t g e b : Nat} {x y w : Int32} (h : b < 28) : putG σ (tr t) g x y w e b = σ b := by
  unfold putG
  rw [z_up_ne _ _ _ (tr_ne h 6)]
  unfold gp3 gp2 z_row
  rw [if_neg (tr_ne h 11), if_neg (tr_ne h 11)]
  unfold gp1
  rw [z_up_ne _ _ _ (tr_ne h 10), z_up_ne _ _ _ (tr_ne h 9), z_up_ne _ _ _ (tr_ne h 8), z_up_ne _ _ _ (tr_ne h 7)]
theorem cmS_ne {σ : Nat → Nat → Int32} {x y : Int32} {b : Nat} (h : b ≠ 19 ∧ b ≠ 23 ∧ b ≠ 24) : cmS σ x y b = σ b := by
  unfold cmS
  rw [z_up_ne _ _ _ h.1, z_up_ne _ _ _ h.2.2, z_up_ne _ _ _ h.2.1]
def gd3 (σ : Nat → Nat → Int32) (T g v : Nat) (y w : Int32) (e : Nat) : Nat → Nat → Int32 := z_up (cmS (putG σ T g (nI v) y w e) 1 (nI g)) 25 v 1
def gdN (σ : Nat → Nat → Int32) (T g v : Nat) (y w : Int32) (e : Nat) : Nat → Nat → Int32 := mkN (mkN (gd3 σ T g v y w e) 21 6) 22 e
def gdS (σ : Nat → Nat → Int32) (T v : Nat) (y w : Int32) : Nat → Nat → Int32 :=
  if σ (T + 2) v = 0 then σ else if fnd (hsB σ T (nI v) y) (tN (σ (T + 6) 5)) < tN (σ (T + 6) 5) then σ
  else gdN σ T (tN (σ (T + 6) 5)) v y w (tN (σ 20 2))
theorem gd3_lo {σ : Nat → Nat → Int32} {t g v e b : Nat} {y w : Int32} (h : b = 20 ∨ b = 21 ∨ b = 22) : gd3 σ (tr t) g v y w e b = σ b := by
  unfold gd3
  rw [z_up_ne _ _ _ (by omega), cmS_ne (by omega), putG_lo (by omega)]
set_option maxRecDepth 100000 in
set_option maxHeartbeats 4000000 in
theorem guard_loop2 {d : Nat} {σ : Nat → Nat → Int32} {τ : Nat → Nat → Int64} {t g c v e : Nat} {y w : Int32} (ht : t < 4) (hv : v < 36) (hy : y = 0 ∨ y = 1) (hg : σ (tr t + 6) 5 = nI g) (hg15 : g < 15) (hc : σ 19 3 = nI c) (hc30 : c < 30) (he : σ 20 2 = nI e) (he6 : e ≤ 6) (hl : ∀ l, l < 6 → ∃ q, q < 36 ∧ σ 21 l = nI q) (hs : ∀ s, s < e → ∃ q, q < 36 ∧ σ 22 s = nI q) : ∀ (m i : Nat), i ≤ e → e - i < m → z_V M_X8_guard (d + 1) 0 0 0 0 none (124, z_r0, gdN σ (tr t) g v y w e, τ) 86 [some (.ref 19), some (.ref (tr t)), some (.int (nI v)), some (.int y), some (.int w), some (.int (nI i))] [] (124, z_r0, mkN (mkN (gd3 σ (tr t) g v y w e) 21 6) 22 i, τ) := by
  have hk := tr_k ht
  have hr := tr_r ht
  intro m
  induction m with
  | zero => intro i _ h; omega
  | succ m ih =>
    intro i hv1 hv2
    refine z_iload dX8_guard_86 rfl ?_
    refine z_aload_n dX8_guard_88 rfl rfl ?_
    refine z_getR dX8_guard_89 fl_X8_12 rfl rfl rfl ?_
    refine z_getI dX8_guard_92 fl_X8_150 rfl rfl (show _ = nI e by rw [mkN_ne _ _ _ (by decide), mkN_ne _ _ _ (by decide), gd3_lo (by omega)]; exact he) ?_
    refine z_icmp_ge (tgt := 120) dX8_guard_95 (by decide) (fun c95 => ?_) (fun c95 => ?_)
    · have e0 : e = i := by
        rcases Nat.lt_or_ge i e with q | q
        · exact absurd c95 (nI_ge q (by omega))
        · omega
      subst e0
      exact z_vret dX8_guard_120 rfl rfl rfl
    · have hlt : i < e := by
        rcases Nat.lt_or_ge i e with q | q
        · exact q
        · exact absurd (nI_le q (by omega)) c95
      refine z_aload_n dX8_guard_98 rfl rfl ?_
      refine z_getR dX8_guard_99 fl_X8_25 rfl rfl rfl ?_
      refine z_aload_n dX8_guard_102 rfl rfl ?_
      refine z_getR dX8_guard_103 fl_X8_12 rfl rfl rfl ?_
      refine z_getR dX8_guard_106 fl_X8_153 rfl rfl rfl ?_
      refine z_iload dX8_guard_109 rfl ?_
      obtain ⟨q, hq, hpq⟩ := hs i hlt
      refine z_iald dX8_guard_111 rfl rfl (by omega) (show _ = nI q by rw [mkN_ne _ _ _ (by decide), mkN_ne _ _ _ (by decide), gd3_lo (by omega)]; exact hpq) ?_
      refine z_iconst (v := 1) dX8_guard_112 (by decide) ?_
      refine z_zast dX8_guard_113 rfl rfl (by omega) (by first | exact Or.inl rfl | exact Or.inr rfl) ?_
      refine z_iinc dX8_guard_114 rfl (nI_i _) (by decide) ?_
      show z_V _ _ _ _ _ _ _ _ _ [_, _, _, _, _, _] _ _
      refine z_goto (tgt := 86) dX8_guard_117 (by decide) ?_
      refine z_Vx (σ' := mkN (mkN (gd3 σ (tr t) g v y w e) 21 6) 22 (i + 1)) ?_ (ih (i + 1) (by omega) (by omega))
      rw [mkN_s, show mkN (gd3 σ (tr t) g v y w e) 21 6 22 i = nI q by rw [mkN_ne _ _ _ (by decide), gd3_lo (by omega)]; exact hpq, tN_nI (by omega)]
set_option maxRecDepth 100000 in
set_option maxHeartbeats 4000000 in
theorem guard_loop1 {d : Nat} {σ : Nat → Nat → Int32} {τ : Nat → Nat → Int64} {t g c v e : Nat} {y w : Int32} (ht : t < 4) (hv : v < 36) (hy : y = 0 ∨ y = 1) (hg : σ (tr t + 6) 5 = nI g) (hg15 : g < 15) (hc : σ 19 3 = nI c) (hc30 : c < 30) (he : σ 20 2 = nI e) (he6 : e ≤ 6) (hl : ∀ l, l < 6 → ∃ q, q < 36 ∧ σ 21 l = nI q) (hs : ∀ s, s < e → ∃ q, q < 36 ∧ σ 22 s = nI q) : ∀ (m i : Nat), i ≤ 6 → 6 - i < m → z_V M_X8_guard (d + 1) 0 0 0 0 none (124, z_r0, gdN σ (tr t) g v y w e, τ) 54 [some (.ref 19), some (.ref (tr t)), some (.int (nI v)), some (.int y), some (.int w), some (.int (nI i))] [] (124, z_r0, mkN (gd3 σ (tr t) g v y w e) 21 i, τ) := by
  have hk := tr_k ht
  have hr := tr_r ht
  intro m
  induction m with
  | zero => intro i _ h; omega
  | succ m ih =>
    intro i hv1 hv2
    refine z_iload dX8_guard_54 rfl ?_
    refine z_bipush (v := nI 6) dX8_guard_56 (by decide) ?_
    refine z_icmp_ge (tgt := 83) dX8_guard_58 (by decide) (fun c58 => ?_) (fun c58 => ?_)
    · have e0 : 6 = i := by
        rcases Nat.lt_or_ge i 6 with q | q
        · exact absurd c58 (nI_ge q (by omega))
        · omega
      subst e0
      refine z_iconst (v := 0) dX8_guard_83 (by decide) ?_
      refine z_istore dX8_guard_84 (by decide) ?_
      show z_V _ _ _ _ _ _ _ _ _ [_, _, _, _, _, _] _ _
      exact guard_loop2 ht hv hy hg hg15 hc hc30 he he6 hl hs (e + 1) 0 (Nat.zero_le _) (by omega)
    · have hlt : i < 6 := by
        rcases Nat.lt_or_ge i 6 with q | q
        · exact q
        · exact absurd (nI_le q (by omega)) c58
      refine z_aload_n dX8_guard_61 rfl rfl ?_
      refine z_getR dX8_guard_62 fl_X8_25 rfl rfl rfl ?_
      refine z_aload_n dX8_guard_65 rfl rfl ?_
      refine z_getR dX8_guard_66 fl_X8_12 rfl rfl rfl ?_
      refine z_getR dX8_guard_69 fl_X8_63 rfl rfl rfl ?_
      refine z_iload dX8_guard_72 rfl ?_
      obtain ⟨q, hq, hpq⟩ := hl i hlt
      refine z_iald dX8_guard_74 rfl rfl (by omega) (show _ = nI q by rw [mkN_ne _ _ _ (by decide), gd3_lo (by omega)]; exact hpq) ?_
      refine z_iconst (v := 1) dX8_guard_75 (by decide) ?_
      refine z_zast dX8_guard_76 rfl rfl (by omega) (by first | exact Or.inl rfl | exact Or.inr rfl) ?_
      refine z_iinc dX8_guard_77 rfl (nI_i _) (by decide) ?_
      show z_V _ _ _ _ _ _ _ _ _ [_, _, _, _, _, _] _ _
      refine z_goto (tgt := 54) dX8_guard_80 (by decide) ?_
      refine z_Vx (σ' := mkN (gd3 σ (tr t) g v y w e) 21 (i + 1)) ?_ (ih (i + 1) (by omega) (by omega))
      rw [mkN_s, show gd3 σ (tr t) g v y w e 21 i = nI q by rw [gd3_lo (by omega)]; exact hpq, tN_nI (by omega)]
set_option maxRecDepth 100000 in
set_option maxHeartbeats 4000000 in
theorem sp_guard {d : Nat} {σ : Nat → Nat → Int32} {τ : Nat → Nat → Int64} {t g c v e : Nat} {y w : Int32} (ht : t < 4) (hv : v < 36) (hy : y = 0 ∨ y = 1) (hg : σ (tr t + 6) 5 = nI g) (hg15 : g < 15) (hc : σ 19 3 = nI c) (hc30 : c < 30) (he : σ 20 2 = nI e) (he6 : e ≤ 6) (hl : ∀ l, l < 6 → ∃ q, q < 36 ∧ σ 21 l = nI q) (hs : ∀ s, s < e → ∃ q, q < 36 ∧ σ 22 s = nI q) : z_MV M_X8_guard (d + 1) 0 0 [.ref 19, .ref (tr t), .int (nI v), .int y, .int w] (124, z_r0, σ, τ) (none) (124, z_r0, gdS σ (tr t) v y w, τ) := by
  refine z_MV.of pn_X8_guard (Nat.le_of_ble_eq_true rfl) (by simp [Value.category]) rfl ?_
  show z_V _ _ _ _ _ _ _ _ _ [_, _, _, _, _, _] _ _
  have hk := tr_k ht
  have hr := tr_r ht
  refine z_aload_n dX8_guard_0 rfl rfl ?_
  refine z_getR dX8_guard_1 fl_X8_66 rfl hk.1 hr.2.1 ?_
  refine z_iload_n dX8_guard_4 rfl rfl ?_
  refine z_cV1 dX8_guard_5 ml_X8_123 (sp_isNumber ht hv) hk.2.1 ⟨by decide, rfl⟩ rfl rfl (Nat.le_of_ble_eq_true rfl) ?_
  refine z_if_ne (tgt := 23) dX8_guard_8 (by decide) (fun c8 => ?_) (fun c8 => ?_)
  · have hz : σ (tr t + 2) v = 0 := by
      rcases Decidable.em (σ (tr t + 2) v = 0) with q | q
      · exact q
      · rw [b2i_f q] at c8; exact absurd rfl c8
    have e1 : gdS σ (tr t) v y w = σ := by unfold gdS; rw [if_pos hz]
    exact z_vret dX8_guard_23 rfl rfl (by rw [e1])
  · have hz : ¬ σ (tr t + 2) v = 0 := fun q => by rw [b2i_t q] at c8; exact absurd c8 (by decide)
    refine z_aload_n dX8_guard_11 rfl rfl ?_
    refine z_getR dX8_guard_12 fl_X8_136 rfl hk.1 hr.2.2.1 ?_
    refine z_iload_n dX8_guard_15 rfl rfl ?_
    refine z_iload_n dX8_guard_16 rfl rfl ?_
    refine z_cV1 dX8_guard_17 ml_X8_140 (sp_hasF ht hg (by omega)) hk.2.2.2.2.2.2.1 ⟨by decide, rfl⟩ rfl rfl (Nat.le_of_ble_eq_true rfl) ?_
    refine z_if_eq (tgt := 24) dX8_guard_20 (by decide) (fun c20 => ?_) (fun c20 => ?_)
    · have hf : ¬ fnd (hsB σ (tr t) (nI v) y) g < g := fun q => by rw [b2i_t q] at c20; exact absurd c20 (by decide)
      have e1 : gdS σ (tr t) v y w = gdN σ (tr t) g v y w e := by unfold gdS; rw [if_neg hz, hg, tN_nI (by omega), if_neg hf, he, tN_nI (by omega)]
      refine z_aload_n dX8_guard_24 rfl rfl ?_
      refine z_iconst (v := 1) dX8_guard_25 (by decide) ?_
      refine z_aload_n dX8_guard_26 rfl rfl ?_
      refine z_getR dX8_guard_27 fl_X8_136 rfl hk.1 hr.2.2.1 ?_
      refine z_iload_n dX8_guard_30 rfl rfl ?_
      refine z_iload_n dX8_guard_31 rfl rfl ?_
      refine z_iload dX8_guard_32 rfl ?_
      refine z_aload_n dX8_guard_34 rfl rfl ?_
      refine z_getR dX8_guard_35 fl_X8_12 rfl rfl rfl ?_
      refine z_cV1 dX8_guard_38 ml_X8_146 (sp_gput ht hg hg15 hy he he6) hk.2.2.2.2.2.2.1 ⟨by decide, rfl⟩ rfl rfl (Nat.le_of_ble_eq_true rfl) ?_
      refine z_cV0 dX8_guard_41 ml_X8_112 (sp_came (show _ = nI c by rw [putG_lo (by decide)]; exact hc) hc30) rfl ⟨by decide, rfl⟩ rfl rfl (Nat.le_of_ble_eq_true rfl) ?_
      refine z_aload_n dX8_guard_44 rfl rfl ?_
      refine z_getR dX8_guard_45 fl_X8_25 rfl rfl rfl ?_
      refine z_iload_n dX8_guard_48 rfl rfl ?_
      refine z_iconst (v := 1) dX8_guard_49 (by decide) ?_
      refine z_zast dX8_guard_50 rfl rfl (by omega) (by first | exact Or.inl rfl | exact Or.inr rfl) ?_
      refine z_iconst (v := 0) dX8_guard_51 (by decide) ?_
      refine z_istore dX8_guard_52 (by decide) ?_
      show z_V _ _ _ _ _ _ _ _ _ [_, _, _, _, _, _] _ _
      rw [e1]
      exact guard_loop1 ht hv hy hg hg15 hc hc30 he he6 hl hs 7 0 (by omega) (by omega)
    · have hf : fnd (hsB σ (tr t) (nI v) y) g < g := by
        rcases Decidable.em (fnd (hsB σ (tr t) (nI v) y) g < g) with q | q
        · exact q
        · rw [b2i_f q] at c20; exact absurd rfl c20
      have e1 : gdS σ (tr t) v y w = σ := by unfold gdS; rw [if_neg hz, hg, tN_nI (by omega), if_pos hf]
      exact z_vret dX8_guard_23 rfl rfl (by rw [e1])
theorem shS_lo {σ : Nat → Nat → Int32} {t n b : Nat} {k l r : Int32} (h : b < 28) : shS σ (tr t) n k l r b = σ b := by
  unfold shS shr
  split
  · rfl
  · rw [z_up_ne _ _ _ (tr_ne h 1), z_up_ne _ _ _ (tr_ne h 5), z_up_ne _ _ _ (tr_ne h 4), z_up_ne _ _ _ (tr_ne h 3), z_up_ne _ _ _ (tr_ne h 2)]
theorem cmb_20 {σ : Nat → Nat → Int32} {t n op a b c : Nat} (h : c = 20 ∨ c = 21 ∨ c = 22) : (cmb σ (tr t) n op a b).2 c = σ c := by
  unfold cmb
  split
  · exact shS_lo (by omega)
  · show (if _ then σ else _) c = _
    split
    · rfl
    · rw [cmS_ne (by omega)]
      unfold shr
      rw [z_up_ne _ _ _ (tr_ne (by omega) 1), z_up_ne _ _ _ (tr_ne (by omega) 5), z_up_ne _ _ _ (tr_ne (by omega) 4), z_up_ne _ _ _ (tr_ne (by omega) 3), z_up_ne _ _ _ (tr_ne (by omega) 2)]
theorem po_ne {σ : Nat → Nat → Int32} {f e b : Nat} (h : b ≠ f) : po σ f e b = σ b := z_up_ne _ _ _ h
set_option maxRecDepth 100000 in
set_option maxHeartbeats 4000000 in
theorem sp_fl0 {d : Nat} {σ : Nat → Nat → Int32} {τ : Nat → Nat → Int64} {t p n e : Nat} {y : Int32} (ht : t < 4) (hp : p < 40) (hop : σ 2 p = nI 0) (hn : σ (tr t + 1) 4 = nI n) (h36 : n < 36) (he : σ 20 2 = nI e) (he6 : e < 6) : z_MV M_X8_follow (d + 2) 0 0 [.ref 19, .ref (tr t), .int (nI p), .int y, .ref 1] (124, z_r0, σ, τ) (none) (124, z_r0, pu (shS σ (tr t) n 0 (σ 3 p) 0) 20 e (nI (shI σ (tr t) n 0 (σ 3 p) 0)), τ) := by
  refine z_MV.of pn_X8_follow (Nat.le_of_ble_eq_true rfl) (by simp [Value.category]) rfl ?_
  show z_V _ _ _ _ _ _ _ _ _ [_, _, _, _, _, _, _, _, _, _] _ _
  have hk := tr_k ht
  have hr := tr_r ht
  refine z_aload dX8_follow_0 rfl ?_
  refine z_getR dX8_follow_2 fl_X8_87 rfl rfl rfl ?_
  refine z_iload_n dX8_follow_5 rfl rfl ?_
  refine z_iald dX8_follow_6 rfl rfl (by omega) hop ?_
  refine z_istore dX8_follow_7 (by decide) ?_
  show z_V _ _ _ _ _ _ _ _ _ [_, _, _, _, _, _, _, _, _, _] _ _
  refine z_aload dX8_follow_9 rfl ?_
  refine z_getR dX8_follow_11 fl_X8_92 rfl rfl rfl ?_
  refine z_iload_n dX8_follow_14 rfl rfl ?_
  refine z_iald dX8_follow_15 rfl rfl (by omega) rfl ?_
  refine z_istore dX8_follow_16 (by decide) ?_
  show z_V _ _ _ _ _ _ _ _ _ [_, _, _, _, _, _, _, _, _, _] _ _
  refine z_iload dX8_follow_18 rfl ?_
  refine z_tableIn (off := 76) (tgt := 96) dX8_follow_20 (by decide) (by decide) (by decide) (by decide) ?_
  refine z_aload_n dX8_follow_96 rfl rfl ?_
  refine z_getR dX8_follow_97 fl_X8_12 rfl rfl rfl ?_
  refine z_aload_n dX8_follow_100 rfl rfl ?_
  refine z_getR dX8_follow_101 fl_X8_66 rfl hk.1 hr.2.1 ?_
  refine z_iconst (v := 0) dX8_follow_104 (by decide) ?_
  refine z_iload dX8_follow_105 rfl ?_
  refine z_iconst (v := 0) dX8_follow_107 (by decide) ?_
  refine z_cV1 dX8_follow_108 ml_X8_95 (sp_shareF ht hn h36) hk.2.1 ⟨by decide, rfl⟩ rfl rfl (Nat.le_of_ble_eq_true rfl) ?_
  refine z_cV0 dX8_follow_111 ml_X8_101 (sp_push (Or.inr rfl) (show _ = nI e by rw [shS_lo (by decide)]; exact he) he6) rfl ⟨by decide, rfl⟩ rfl rfl (Nat.le_of_ble_eq_true rfl) ?_
  refine z_goto (tgt := 225) dX8_follow_114 (by decide) ?_
  exact z_vret dX8_follow_225 rfl rfl rfl
set_option maxRecDepth 100000 in
set_option maxHeartbeats 4000000 in
theorem sp_fl1 {d : Nat} {σ : Nat → Nat → Int32} {τ : Nat → Nat → Int64} {t p n e : Nat} {y : Int32} (ht : t < 4) (hp : p < 40) (hop : σ 2 p = nI 1) {l : Nat} (he : σ 20 2 = nI e) (he6 : e < 6) (hx : σ 3 p = nI l) (hl : l < 6) : z_MV M_X8_follow (d + 2) 0 0 [.ref 19, .ref (tr t), .int (nI p), .int y, .ref 1] (124, z_r0, σ, τ) (none) (124, z_r0, pu σ 20 e (σ 21 l), τ) := by
  refine z_MV.of pn_X8_follow (Nat.le_of_ble_eq_true rfl) (by simp [Value.category]) rfl ?_
  show z_V _ _ _ _ _ _ _ _ _ [_, _, _, _, _, _, _, _, _, _] _ _
  have hk := tr_k ht
  have hr := tr_r ht
  refine z_aload dX8_follow_0 rfl ?_
  refine z_getR dX8_follow_2 fl_X8_87 rfl rfl rfl ?_
  refine z_iload_n dX8_follow_5 rfl rfl ?_
  refine z_iald dX8_follow_6 rfl rfl (by omega) hop ?_
  refine z_istore dX8_follow_7 (by decide) ?_
  show z_V _ _ _ _ _ _ _ _ _ [_, _, _, _, _, _, _, _, _, _] _ _
  refine z_aload dX8_follow_9 rfl ?_
  refine z_getR dX8_follow_11 fl_X8_92 rfl rfl rfl ?_
  refine z_iload_n dX8_follow_14 rfl rfl ?_
  refine z_iald dX8_follow_15 rfl rfl (by omega) hx ?_
  refine z_istore dX8_follow_16 (by decide) ?_
  show z_V _ _ _ _ _ _ _ _ _ [_, _, _, _, _, _, _, _, _, _] _ _
  refine z_iload dX8_follow_18 rfl ?_
  refine z_tableIn (off := 194) (tgt := 214) dX8_follow_20 (by decide) (by decide) (by decide) (by decide) ?_
  refine z_aload_n dX8_follow_214 rfl rfl ?_
  refine z_getR dX8_follow_215 fl_X8_12 rfl rfl rfl ?_
  refine z_iload dX8_follow_218 rfl ?_
  refine z_iload dX8_follow_220 rfl ?_
  refine z_cV0 dX8_follow_222 ml_X8_120 (sp_mv1 (Or.inr rfl) he he6 hl) rfl ⟨by decide, rfl⟩ rfl rfl (Nat.le_of_ble_eq_true rfl) ?_
  exact z_vret dX8_follow_225 rfl rfl rfl
set_option maxRecDepth 100000 in
set_option maxHeartbeats 4000000 in
theorem sp_fl2 {d : Nat} {σ : Nat → Nat → Int32} {τ : Nat → Nat → Int64} {t p n e : Nat} {y : Int32} (ht : t < 4) (hp : p < 40) (hop : σ 2 p = nI 2) {l : Nat} (he : σ 20 2 = nI (e + 1)) (he6 : e < 6) (hx : σ 3 p = nI l) (hl : l < 6) : z_MV M_X8_follow (d + 2) 0 0 [.ref 19, .ref (tr t), .int (nI p), .int y, .ref 1] (124, z_r0, σ, τ) (none) (124, z_r0, z_up (po σ 20 e) 21 l (σ 22 e), τ) := by
  refine z_MV.of pn_X8_follow (Nat.le_of_ble_eq_true rfl) (by simp [Value.category]) rfl ?_
  show z_V _ _ _ _ _ _ _ _ _ [_, _, _, _, _, _, _, _, _, _] _ _
  have hk := tr_k ht
  have hr := tr_r ht
  refine z_aload dX8_follow_0 rfl ?_
  refine z_getR dX8_follow_2 fl_X8_87 rfl rfl rfl ?_
  refine z_iload_n dX8_follow_5 rfl rfl ?_
  refine z_iald dX8_follow_6 rfl rfl (by omega) hop ?_
  refine z_istore dX8_follow_7 (by decide) ?_
  show z_V _ _ _ _ _ _ _ _ _ [_, _, _, _, _, _, _, _, _, _] _ _
  refine z_aload dX8_follow_9 rfl ?_
  refine z_getR dX8_follow_11 fl_X8_92 rfl rfl rfl ?_
  refine z_iload_n dX8_follow_14 rfl rfl ?_
  refine z_iald dX8_follow_15 rfl rfl (by omega) hx ?_
  refine z_istore dX8_follow_16 (by decide) ?_
  show z_V _ _ _ _ _ _ _ _ _ [_, _, _, _, _, _, _, _, _, _] _ _
  refine z_iload dX8_follow_18 rfl ?_
  refine z_tableIn (off := 194) (tgt := 214) dX8_follow_20 (by decide) (by decide) (by decide) (by decide) ?_
  refine z_aload_n dX8_follow_214 rfl rfl ?_
  refine z_getR dX8_follow_215 fl_X8_12 rfl rfl rfl ?_
  refine z_iload dX8_follow_218 rfl ?_
  refine z_iload dX8_follow_220 rfl ?_
  refine z_cV0 dX8_follow_222 ml_X8_120 (sp_mv2 (Or.inr rfl) he he6 hl) rfl ⟨by decide, rfl⟩ rfl rfl (Nat.le_of_ble_eq_true rfl) ?_
  exact z_vret dX8_follow_225 rfl rfl rfl
set_option maxRecDepth 100000 in
set_option maxHeartbeats 4000000 in
theorem sp_fl9 {d : Nat} {σ : Nat → Nat → Int32} {τ : Nat → Nat → Int64} {t p n e : Nat} {y : Int32} (ht : t < 4) (hp : p < 40) (hop : σ 2 p = nI 9) (he : σ 20 2 = nI (e + 1)) (he6 : e + 1 < 6) : z_MV M_X8_follow (d + 2) 0 0 [.ref 19, .ref (tr t), .int (nI p), .int y, .ref 1] (124, z_r0, σ, τ) (none) (124, z_r0, pu (pu (po σ 20 e) 20 e (σ 22 e)) 20 (e + 1) (σ 22 e), τ) := by
  refine z_MV.of pn_X8_follow (Nat.le_of_ble_eq_true rfl) (by simp [Value.category]) rfl ?_
  show z_V _ _ _ _ _ _ _ _ _ [_, _, _, _, _, _, _, _, _, _] _ _
  have hk := tr_k ht
  have hr := tr_r ht
  refine z_aload dX8_follow_0 rfl ?_
  refine z_getR dX8_follow_2 fl_X8_87 rfl rfl rfl ?_
  refine z_iload_n dX8_follow_5 rfl rfl ?_
  refine z_iald dX8_follow_6 rfl rfl (by omega) hop ?_
  refine z_istore dX8_follow_7 (by decide) ?_
  show z_V _ _ _ _ _ _ _ _ _ [_, _, _, _, _, _, _, _, _, _] _ _
  refine z_aload dX8_follow_9 rfl ?_
  refine z_getR dX8_follow_11 fl_X8_92 rfl rfl rfl ?_
  refine z_iload_n dX8_follow_14 rfl rfl ?_
  refine z_iald dX8_follow_15 rfl rfl (by omega) rfl ?_
  refine z_istore dX8_follow_16 (by decide) ?_
  show z_V _ _ _ _ _ _ _ _ _ [_, _, _, _, _, _, _, _, _, _] _ _
  refine z_iload dX8_follow_18 rfl ?_
  refine z_tableIn (off := 194) (tgt := 214) dX8_follow_20 (by decide) (by decide) (by decide) (by decide) ?_
  refine z_aload_n dX8_follow_214 rfl rfl ?_
  refine z_getR dX8_follow_215 fl_X8_12 rfl rfl rfl ?_
  refine z_iload dX8_follow_218 rfl ?_
  refine z_iload dX8_follow_220 rfl ?_
  refine z_cV0 dX8_follow_222 ml_X8_120 (sp_mv9 (Or.inr rfl) he he6) rfl ⟨by decide, rfl⟩ rfl rfl (Nat.le_of_ble_eq_true rfl) ?_
  exact z_vret dX8_follow_225 rfl rfl rfl
set_option maxRecDepth 100000 in
set_option maxHeartbeats 4000000 in
theorem sp_fl10 {d : Nat} {σ : Nat → Nat → Int32} {τ : Nat → Nat → Int64} {t p n e : Nat} {y : Int32} (ht : t < 4) (hp : p < 40) (hop : σ 2 p = nI 10) (he : σ 20 2 = nI (e + 1)) (he6 : e < 6) : z_MV M_X8_follow (d + 2) 0 0 [.ref 19, .ref (tr t), .int (nI p), .int y, .ref 1] (124, z_r0, σ, τ) (none) (124, z_r0, po σ 20 e, τ) := by
  refine z_MV.of pn_X8_follow (Nat.le_of_ble_eq_true rfl) (by simp [Value.category]) rfl ?_
  show z_V _ _ _ _ _ _ _ _ _ [_, _, _, _, _, _, _, _, _, _] _ _
  have hk := tr_k ht
  have hr := tr_r ht
  refine z_aload dX8_follow_0 rfl ?_
  refine z_getR dX8_follow_2 fl_X8_87 rfl rfl rfl ?_
  refine z_iload_n dX8_follow_5 rfl rfl ?_
  refine z_iald dX8_follow_6 rfl rfl (by omega) hop ?_
  refine z_istore dX8_follow_7 (by decide) ?_
  show z_V _ _ _ _ _ _ _ _ _ [_, _, _, _, _, _, _, _, _, _] _ _
  refine z_aload dX8_follow_9 rfl ?_
  refine z_getR dX8_follow_11 fl_X8_92 rfl rfl rfl ?_
  refine z_iload_n dX8_follow_14 rfl rfl ?_
  refine z_iald dX8_follow_15 rfl rfl (by omega) rfl ?_
  refine z_istore dX8_follow_16 (by decide) ?_
  show z_V _ _ _ _ _ _ _ _ _ [_, _, _, _, _, _, _, _, _, _] _ _
  refine z_iload dX8_follow_18 rfl ?_
  refine z_tableIn (off := 194) (tgt := 214) dX8_follow_20 (by decide) (by decide) (by decide) (by decide) ?_
  refine z_aload_n dX8_follow_214 rfl rfl ?_
  refine z_getR dX8_follow_215 fl_X8_12 rfl rfl rfl ?_
  refine z_iload dX8_follow_218 rfl ?_
  refine z_iload dX8_follow_220 rfl ?_
  refine z_cV0 dX8_follow_222 ml_X8_120 (sp_mv10 (Or.inr rfl) he he6) rfl ⟨by decide, rfl⟩ rfl rfl (Nat.le_of_ble_eq_true rfl) ?_
  exact z_vret dX8_follow_225 rfl rfl rfl
set_option maxRecDepth 100000 in
set_option maxHeartbeats 4000000 in
theorem sp_fl11 {d : Nat} {σ : Nat → Nat → Int32} {τ : Nat → Nat → Int64} {t p n e : Nat} {y : Int32} (ht : t < 4) (hp : p < 40) (hop : σ 2 p = nI 11) (he : σ 20 2 = nI (e + 2)) (he6 : e + 1 < 6) : z_MV M_X8_follow (d + 2) 0 0 [.ref 19, .ref (tr t), .int (nI p), .int y, .ref 1] (124, z_r0, σ, τ) (none) (124, z_r0, pu (pu (po (po σ 20 (e + 1)) 20 e) 20 e (σ 22 (e + 1))) 20 (e + 1) (po σ 20 (e + 1) 22 e), τ) := by
  refine z_MV.of pn_X8_follow (Nat.le_of_ble_eq_true rfl) (by simp [Value.category]) rfl ?_
  show z_V _ _ _ _ _ _ _ _ _ [_, _, _, _, _, _, _, _, _, _] _ _
  have hk := tr_k ht
  have hr := tr_r ht
  refine z_aload dX8_follow_0 rfl ?_
  refine z_getR dX8_follow_2 fl_X8_87 rfl rfl rfl ?_
  refine z_iload_n dX8_follow_5 rfl rfl ?_
  refine z_iald dX8_follow_6 rfl rfl (by omega) hop ?_
  refine z_istore dX8_follow_7 (by decide) ?_
  show z_V _ _ _ _ _ _ _ _ _ [_, _, _, _, _, _, _, _, _, _] _ _
  refine z_aload dX8_follow_9 rfl ?_
  refine z_getR dX8_follow_11 fl_X8_92 rfl rfl rfl ?_
  refine z_iload_n dX8_follow_14 rfl rfl ?_
  refine z_iald dX8_follow_15 rfl rfl (by omega) rfl ?_
  refine z_istore dX8_follow_16 (by decide) ?_
  show z_V _ _ _ _ _ _ _ _ _ [_, _, _, _, _, _, _, _, _, _] _ _
  refine z_iload dX8_follow_18 rfl ?_
  refine z_tableIn (off := 194) (tgt := 214) dX8_follow_20 (by decide) (by decide) (by decide) (by decide) ?_
  refine z_aload_n dX8_follow_214 rfl rfl ?_
  refine z_getR dX8_follow_215 fl_X8_12 rfl rfl rfl ?_
  refine z_iload dX8_follow_218 rfl ?_
  refine z_iload dX8_follow_220 rfl ?_
  refine z_cV0 dX8_follow_222 ml_X8_120 (sp_mv11 (Or.inr rfl) he he6) rfl ⟨by decide, rfl⟩ rfl rfl (Nat.le_of_ble_eq_true rfl) ?_
  exact z_vret dX8_follow_225 rfl rfl rfl
set_option maxRecDepth 100000 in
set_option maxHeartbeats 4000000 in
theorem sp_fl13 {d : Nat} {σ : Nat → Nat → Int32} {τ : Nat → Nat → Int64} {t p n e : Nat} {y : Int32} (ht : t < 4) (hp : p < 40) (hop : σ 2 p = nI 13) : z_MV M_X8_follow (d + 2) 0 0 [.ref 19, .ref (tr t), .int (nI p), .int y, .ref 1] (124, z_r0, σ, τ) (none) (124, z_r0, σ, τ) := by
  refine z_MV.of pn_X8_follow (Nat.le_of_ble_eq_true rfl) (by simp [Value.category]) rfl ?_
  show z_V _ _ _ _ _ _ _ _ _ [_, _, _, _, _, _, _, _, _, _] _ _
  have hk := tr_k ht
  have hr := tr_r ht
  refine z_aload dX8_follow_0 rfl ?_
  refine z_getR dX8_follow_2 fl_X8_87 rfl rfl rfl ?_
  refine z_iload_n dX8_follow_5 rfl rfl ?_
  refine z_iald dX8_follow_6 rfl rfl (by omega) hop ?_
  refine z_istore dX8_follow_7 (by decide) ?_
  show z_V _ _ _ _ _ _ _ _ _ [_, _, _, _, _, _, _, _, _, _] _ _
  refine z_aload dX8_follow_9 rfl ?_
  refine z_getR dX8_follow_11 fl_X8_92 rfl rfl rfl ?_
  refine z_iload_n dX8_follow_14 rfl rfl ?_
  refine z_iald dX8_follow_15 rfl rfl (by omega) rfl ?_
  refine z_istore dX8_follow_16 (by decide) ?_
  show z_V _ _ _ _ _ _ _ _ _ [_, _, _, _, _, _, _, _, _, _] _ _
  refine z_iload dX8_follow_18 rfl ?_
  refine z_tableIn (off := 194) (tgt := 214) dX8_follow_20 (by decide) (by decide) (by decide) (by decide) ?_
  refine z_aload_n dX8_follow_214 rfl rfl ?_
  refine z_getR dX8_follow_215 fl_X8_12 rfl rfl rfl ?_
  refine z_iload dX8_follow_218 rfl ?_
  refine z_iload dX8_follow_220 rfl ?_
  refine z_cV0 dX8_follow_222 ml_X8_120 (sp_mv13 (e := 0) (Or.inr rfl)) rfl ⟨by decide, rfl⟩ rfl rfl (Nat.le_of_ble_eq_true rfl) ?_
  exact z_vret dX8_follow_225 rfl rfl rfl
set_option maxRecDepth 100000 in
set_option maxHeartbeats 4000000 in
theorem sp_fl3 {d : Nat} {σ : Nat → Nat → Int32} {τ : Nat → Nat → Int64} {t p n e : Nat} {y : Int32} (ht : t < 4) (hp : p < 40) (hop : σ 2 p = nI 3) {c a b : Nat} (hn : σ (tr t + 1) 4 = nI n) (h36 : n < 36) (hc : σ 19 3 = nI c) (hc30 : c < 30) (he : σ 20 2 = nI (e + 2)) (he6 : e + 1 < 6) (hb : σ 22 (e + 1) = nI b) (hb36 : b < 36) (ha : σ 22 e = nI a) (ha36 : a < 36) : z_MV M_X8_follow (d + 2) 0 0 [.ref 19, .ref (tr t), .int (nI p), .int y, .ref 1] (124, z_r0, σ, τ) (none) (124, z_r0, pu (cmb (po (po σ 20 (e + 1)) 20 e) (tr t) n 3 a b).2 20 e (nI (cmb (po (po σ 20 (e + 1)) 20 e) (tr t) n 3 a b).1), τ) := by
  refine z_MV.of pn_X8_follow (Nat.le_of_ble_eq_true rfl) (by simp [Value.category]) rfl ?_
  show z_V _ _ _ _ _ _ _ _ _ [_, _, _, _, _, _, _, _, _, _] _ _
  have hk := tr_k ht
  have hr := tr_r ht
  refine z_aload dX8_follow_0 rfl ?_
  refine z_getR dX8_follow_2 fl_X8_87 rfl rfl rfl ?_
  refine z_iload_n dX8_follow_5 rfl rfl ?_
  refine z_iald dX8_follow_6 rfl rfl (by omega) hop ?_
  refine z_istore dX8_follow_7 (by decide) ?_
  show z_V _ _ _ _ _ _ _ _ _ [_, _, _, _, _, _, _, _, _, _] _ _
  refine z_aload dX8_follow_9 rfl ?_
  refine z_getR dX8_follow_11 fl_X8_92 rfl rfl rfl ?_
  refine z_iload_n dX8_follow_14 rfl rfl ?_
  refine z_iald dX8_follow_15 rfl rfl (by omega) rfl ?_
  refine z_istore dX8_follow_16 (by decide) ?_
  show z_V _ _ _ _ _ _ _ _ _ [_, _, _, _, _, _, _, _, _, _] _ _
  refine z_iload dX8_follow_18 rfl ?_
  refine z_tableIn (off := 97) (tgt := 117) dX8_follow_20 (by decide) (by decide) (by decide) (by decide) ?_
  refine z_aload_n dX8_follow_117 rfl rfl ?_
  refine z_getR dX8_follow_118 fl_X8_12 rfl rfl rfl ?_
  refine z_cV1 dX8_follow_121 ml_X8_104 (sp_pop (Or.inr rfl) he (by omega)) rfl ⟨by decide, rfl⟩ rfl rfl (Nat.le_of_ble_eq_true rfl) ?_
  rw [show σ (20 + 2) (e + 1) = nI b from hb]
  refine z_istore dX8_follow_124 (by decide) ?_
  show z_V _ _ _ _ _ _ _ _ _ [_, _, _, _, _, _, _, _, _, _] _ _
  refine z_aload_n dX8_follow_126 rfl rfl ?_
  refine z_getR dX8_follow_127 fl_X8_12 rfl rfl rfl ?_
  refine z_cV1 dX8_follow_130 ml_X8_104 (sp_pop (e := e) (Or.inr rfl) (show _ = nI (e + 1) by simp [z_up]) (by omega)) rfl ⟨by decide, rfl⟩ rfl rfl (Nat.le_of_ble_eq_true rfl) ?_
  rw [show z_up σ 20 2 (nI (e + 1)) (20 + 2) e = nI a from (congrFun (z_up_ne _ _ _ (by decide)) e).trans ha]
  refine z_istore dX8_follow_133 (by decide) ?_
  show z_V _ _ _ _ _ _ _ _ _ [_, _, _, _, _, _, _, _, _, _] _ _
  refine z_aload_n dX8_follow_135 rfl rfl ?_
  refine z_getR dX8_follow_136 fl_X8_12 rfl rfl rfl ?_
  refine z_aload_n dX8_follow_139 rfl rfl ?_
  refine z_aload_n dX8_follow_140 rfl rfl ?_
  refine z_getR dX8_follow_141 fl_X8_66 rfl hk.1 hr.2.1 ?_
  refine z_iload dX8_follow_144 rfl ?_
  refine z_iload dX8_follow_146 rfl ?_
  refine z_iload dX8_follow_148 rfl ?_
  refine z_cV1 dX8_follow_150 ml_X8_108 (sp_combine (σ := po (po σ 20 (e + 1)) 20 e) ht (show _ = nI n by rw [po_ne (tr_ne' (by decide) 1), po_ne (tr_ne' (by decide) 1)]; exact hn) h36 (show _ = nI c by rw [po_ne (by decide), po_ne (by decide)]; exact hc) hc30 (by decide) (by decide) ha36 hb36) rfl ⟨by decide, rfl⟩ rfl rfl (Nat.le_of_ble_eq_true rfl) ?_
  refine z_cV0 dX8_follow_153 ml_X8_101 (sp_push (e := e) (Or.inr rfl) (show _ = nI e by rw [cmb_20 (by omega)]; simp [po, z_up]) (by omega)) rfl ⟨by decide, rfl⟩ rfl rfl (Nat.le_of_ble_eq_true rfl) ?_
  refine z_goto (tgt := 225) dX8_follow_156 (by decide) ?_
  exact z_vret dX8_follow_225 rfl rfl rfl
set_option maxRecDepth 100000 in
set_option maxHeartbeats 4000000 in
theorem sp_fl4 {d : Nat} {σ : Nat → Nat → Int32} {τ : Nat → Nat → Int64} {t p n e : Nat} {y : Int32} (ht : t < 4) (hp : p < 40) (hop : σ 2 p = nI 4) {c a b : Nat} (hn : σ (tr t + 1) 4 = nI n) (h36 : n < 36) (hc : σ 19 3 = nI c) (hc30 : c < 30) (he : σ 20 2 = nI (e + 2)) (he6 : e + 1 < 6) (hb : σ 22 (e + 1) = nI b) (hb36 : b < 36) (ha : σ 22 e = nI a) (ha36 : a < 36) : z_MV M_X8_follow (d + 2) 0 0 [.ref 19, .ref (tr t), .int (nI p), .int y, .ref 1] (124, z_r0, σ, τ) (none) (124, z_r0, pu (cmb (po (po σ 20 (e + 1)) 20 e) (tr t) n 4 a b).2 20 e (nI (cmb (po (po σ 20 (e + 1)) 20 e) (tr t) n 4 a b).1), τ) := by
  refine z_MV.of pn_X8_follow (Nat.le_of_ble_eq_true rfl) (by simp [Value.category]) rfl ?_
  show z_V _ _ _ _ _ _ _ _ _ [_, _, _, _, _, _, _, _, _, _] _ _
  have hk := tr_k ht
  have hr := tr_r ht
  refine z_aload dX8_follow_0 rfl ?_
  refine z_getR dX8_follow_2 fl_X8_87 rfl rfl rfl ?_
  refine z_iload_n dX8_follow_5 rfl rfl ?_
  refine z_iald dX8_follow_6 rfl rfl (by omega) hop ?_
  refine z_istore dX8_follow_7 (by decide) ?_
  show z_V _ _ _ _ _ _ _ _ _ [_, _, _, _, _, _, _, _, _, _] _ _
  refine z_aload dX8_follow_9 rfl ?_
  refine z_getR dX8_follow_11 fl_X8_92 rfl rfl rfl ?_
  refine z_iload_n dX8_follow_14 rfl rfl ?_
  refine z_iald dX8_follow_15 rfl rfl (by omega) rfl ?_
  refine z_istore dX8_follow_16 (by decide) ?_
  show z_V _ _ _ _ _ _ _ _ _ [_, _, _, _, _, _, _, _, _, _] _ _
  refine z_iload dX8_follow_18 rfl ?_
  refine z_tableIn (off := 97) (tgt := 117) dX8_follow_20 (by decide) (by decide) (by decide) (by decide) ?_
  refine z_aload_n dX8_follow_117 rfl rfl ?_
  refine z_getR dX8_follow_118 fl_X8_12 rfl rfl rfl ?_
  refine z_cV1 dX8_follow_121 ml_X8_104 (sp_pop (Or.inr rfl) he (by omega)) rfl ⟨by decide, rfl⟩ rfl rfl (Nat.le_of_ble_eq_true rfl) ?_
  rw [show σ (20 + 2) (e + 1) = nI b from hb]
  refine z_istore dX8_follow_124 (by decide) ?_
  show z_V _ _ _ _ _ _ _ _ _ [_, _, _, _, _, _, _, _, _, _] _ _
  refine z_aload_n dX8_follow_126 rfl rfl ?_
  refine z_getR dX8_follow_127 fl_X8_12 rfl rfl rfl ?_
  refine z_cV1 dX8_follow_130 ml_X8_104 (sp_pop (e := e) (Or.inr rfl) (show _ = nI (e + 1) by simp [z_up]) (by omega)) rfl ⟨by decide, rfl⟩ rfl rfl (Nat.le_of_ble_eq_true rfl) ?_
  rw [show z_up σ 20 2 (nI (e + 1)) (20 + 2) e = nI a from (congrFun (z_up_ne _ _ _ (by decide)) e).trans ha]
  refine z_istore dX8_follow_133 (by decide) ?_
  show z_V _ _ _ _ _ _ _ _ _ [_, _, _, _, _, _, _, _, _, _] _ _
  refine z_aload_n dX8_follow_135 rfl rfl ?_
  refine z_getR dX8_follow_136 fl_X8_12 rfl rfl rfl ?_
  refine z_aload_n dX8_follow_139 rfl rfl ?_
  refine z_aload_n dX8_follow_140 rfl rfl ?_
  refine z_getR dX8_follow_141 fl_X8_66 rfl hk.1 hr.2.1 ?_
  refine z_iload dX8_follow_144 rfl ?_
  refine z_iload dX8_follow_146 rfl ?_
  refine z_iload dX8_follow_148 rfl ?_
  refine z_cV1 dX8_follow_150 ml_X8_108 (sp_combine (σ := po (po σ 20 (e + 1)) 20 e) ht (show _ = nI n by rw [po_ne (tr_ne' (by decide) 1), po_ne (tr_ne' (by decide) 1)]; exact hn) h36 (show _ = nI c by rw [po_ne (by decide), po_ne (by decide)]; exact hc) hc30 (by decide) (by decide) ha36 hb36) rfl ⟨by decide, rfl⟩ rfl rfl (Nat.le_of_ble_eq_true rfl) ?_
  refine z_cV0 dX8_follow_153 ml_X8_101 (sp_push (e := e) (Or.inr rfl) (show _ = nI e by rw [cmb_20 (by omega)]; simp [po, z_up]) (by omega)) rfl ⟨by decide, rfl⟩ rfl rfl (Nat.le_of_ble_eq_true rfl) ?_
  refine z_goto (tgt := 225) dX8_follow_156 (by decide) ?_
  exact z_vret dX8_follow_225 rfl rfl rfl
set_option maxRecDepth 100000 in
set_option maxHeartbeats 4000000 in
theorem sp_fl5 {d : Nat} {σ : Nat → Nat → Int32} {τ : Nat → Nat → Int64} {t p n e : Nat} {y : Int32} (ht : t < 4) (hp : p < 40) (hop : σ 2 p = nI 5) {c a b : Nat} (hn : σ (tr t + 1) 4 = nI n) (h36 : n < 36) (hc : σ 19 3 = nI c) (hc30 : c < 30) (he : σ 20 2 = nI (e + 2)) (he6 : e + 1 < 6) (hb : σ 22 (e + 1) = nI b) (hb36 : b < 36) (ha : σ 22 e = nI a) (ha36 : a < 36) : z_MV M_X8_follow (d + 2) 0 0 [.ref 19, .ref (tr t), .int (nI p), .int y, .ref 1] (124, z_r0, σ, τ) (none) (124, z_r0, pu (cmb (po (po σ 20 (e + 1)) 20 e) (tr t) n 5 a b).2 20 e (nI (cmb (po (po σ 20 (e + 1)) 20 e) (tr t) n 5 a b).1), τ) := by
  refine z_MV.of pn_X8_follow (Nat.le_of_ble_eq_true rfl) (by simp [Value.category]) rfl ?_
  show z_V _ _ _ _ _ _ _ _ _ [_, _, _, _, _, _, _, _, _, _] _ _
  have hk := tr_k ht
  have hr := tr_r ht
  refine z_aload dX8_follow_0 rfl ?_
  refine z_getR dX8_follow_2 fl_X8_87 rfl rfl rfl ?_
  refine z_iload_n dX8_follow_5 rfl rfl ?_
  refine z_iald dX8_follow_6 rfl rfl (by omega) hop ?_
  refine z_istore dX8_follow_7 (by decide) ?_
  show z_V _ _ _ _ _ _ _ _ _ [_, _, _, _, _, _, _, _, _, _] _ _
  refine z_aload dX8_follow_9 rfl ?_
  refine z_getR dX8_follow_11 fl_X8_92 rfl rfl rfl ?_
  refine z_iload_n dX8_follow_14 rfl rfl ?_
  refine z_iald dX8_follow_15 rfl rfl (by omega) rfl ?_
  refine z_istore dX8_follow_16 (by decide) ?_
  show z_V _ _ _ _ _ _ _ _ _ [_, _, _, _, _, _, _, _, _, _] _ _
  refine z_iload dX8_follow_18 rfl ?_
  refine z_tableIn (off := 97) (tgt := 117) dX8_follow_20 (by decide) (by decide) (by decide) (by decide) ?_
  refine z_aload_n dX8_follow_117 rfl rfl ?_
  refine z_getR dX8_follow_118 fl_X8_12 rfl rfl rfl ?_
  refine z_cV1 dX8_follow_121 ml_X8_104 (sp_pop (Or.inr rfl) he (by omega)) rfl ⟨by decide, rfl⟩ rfl rfl (Nat.le_of_ble_eq_true rfl) ?_
  rw [show σ (20 + 2) (e + 1) = nI b from hb]
  refine z_istore dX8_follow_124 (by decide) ?_
  show z_V _ _ _ _ _ _ _ _ _ [_, _, _, _, _, _, _, _, _, _] _ _
  refine z_aload_n dX8_follow_126 rfl rfl ?_
  refine z_getR dX8_follow_127 fl_X8_12 rfl rfl rfl ?_
  refine z_cV1 dX8_follow_130 ml_X8_104 (sp_pop (e := e) (Or.inr rfl) (show _ = nI (e + 1) by simp [z_up]) (by omega)) rfl ⟨by decide, rfl⟩ rfl rfl (Nat.le_of_ble_eq_true rfl) ?_
  rw [show z_up σ 20 2 (nI (e + 1)) (20 + 2) e = nI a from (congrFun (z_up_ne _ _ _ (by decide)) e).trans ha]
  refine z_istore dX8_follow_133 (by decide) ?_
  show z_V _ _ _ _ _ _ _ _ _ [_, _, _, _, _, _, _, _, _, _] _ _
  refine z_aload_n dX8_follow_135 rfl rfl ?_
  refine z_getR dX8_follow_136 fl_X8_12 rfl rfl rfl ?_
  refine z_aload_n dX8_follow_139 rfl rfl ?_
  refine z_aload_n dX8_follow_140 rfl rfl ?_
  refine z_getR dX8_follow_141 fl_X8_66 rfl hk.1 hr.2.1 ?_
  refine z_iload dX8_follow_144 rfl ?_
  refine z_iload dX8_follow_146 rfl ?_
  refine z_iload dX8_follow_148 rfl ?_
  refine z_cV1 dX8_follow_150 ml_X8_108 (sp_combine (σ := po (po σ 20 (e + 1)) 20 e) ht (show _ = nI n by rw [po_ne (tr_ne' (by decide) 1), po_ne (tr_ne' (by decide) 1)]; exact hn) h36 (show _ = nI c by rw [po_ne (by decide), po_ne (by decide)]; exact hc) hc30 (by decide) (by decide) ha36 hb36) rfl ⟨by decide, rfl⟩ rfl rfl (Nat.le_of_ble_eq_true rfl) ?_
  refine z_cV0 dX8_follow_153 ml_X8_101 (sp_push (e := e) (Or.inr rfl) (show _ = nI e by rw [cmb_20 (by omega)]; simp [po, z_up]) (by omega)) rfl ⟨by decide, rfl⟩ rfl rfl (Nat.le_of_ble_eq_true rfl) ?_
  refine z_goto (tgt := 225) dX8_follow_156 (by decide) ?_
  exact z_vret dX8_follow_225 rfl rfl rfl
set_option maxRecDepth 100000 in
set_option maxHeartbeats 4000000 in
theorem sp_fl6 {d : Nat} {σ : Nat → Nat → Int32} {τ : Nat → Nat → Int64} {t p n e : Nat} {y : Int32} (ht : t < 4) (hp : p < 40) (hop : σ 2 p = nI 6) {c a b : Nat} (hn : σ (tr t + 1) 4 = nI n) (h36 : n < 36) (hc : σ 19 3 = nI c) (hc30 : c < 30) (he : σ 20 2 = nI (e + 2)) (he6 : e + 1 < 6) (hb : σ 22 (e + 1) = nI b) (hb36 : b < 36) (ha : σ 22 e = nI a) (ha36 : a < 36) : z_MV M_X8_follow (d + 2) 0 0 [.ref 19, .ref (tr t), .int (nI p), .int y, .ref 1] (124, z_r0, σ, τ) (none) (124, z_r0, pu (cmb (po (po σ 20 (e + 1)) 20 e) (tr t) n 6 a b).2 20 e (nI (cmb (po (po σ 20 (e + 1)) 20 e) (tr t) n 6 a b).1), τ) := by
  refine z_MV.of pn_X8_follow (Nat.le_of_ble_eq_true rfl) (by simp [Value.category]) rfl ?_
  show z_V _ _ _ _ _ _ _ _ _ [_, _, _, _, _, _, _, _, _, _] _ _
  have hk := tr_k ht
  have hr := tr_r ht
  refine z_aload dX8_follow_0 rfl ?_
  refine z_getR dX8_follow_2 fl_X8_87 rfl rfl rfl ?_
  refine z_iload_n dX8_follow_5 rfl rfl ?_
  refine z_iald dX8_follow_6 rfl rfl (by omega) hop ?_
  refine z_istore dX8_follow_7 (by decide) ?_
  show z_V _ _ _ _ _ _ _ _ _ [_, _, _, _, _, _, _, _, _, _] _ _
  refine z_aload dX8_follow_9 rfl ?_
  refine z_getR dX8_follow_11 fl_X8_92 rfl rfl rfl ?_
  refine z_iload_n dX8_follow_14 rfl rfl ?_
  refine z_iald dX8_follow_15 rfl rfl (by omega) rfl ?_
  refine z_istore dX8_follow_16 (by decide) ?_
  show z_V _ _ _ _ _ _ _ _ _ [_, _, _, _, _, _, _, _, _, _] _ _
  refine z_iload dX8_follow_18 rfl ?_
  refine z_tableIn (off := 97) (tgt := 117) dX8_follow_20 (by decide) (by decide) (by decide) (by decide) ?_
  refine z_aload_n dX8_follow_117 rfl rfl ?_
  refine z_getR dX8_follow_118 fl_X8_12 rfl rfl rfl ?_
  refine z_cV1 dX8_follow_121 ml_X8_104 (sp_pop (Or.inr rfl) he (by omega)) rfl ⟨by decide, rfl⟩ rfl rfl (Nat.le_of_ble_eq_true rfl) ?_
  rw [show σ (20 + 2) (e + 1) = nI b from hb]
  refine z_istore dX8_follow_124 (by decide) ?_
  show z_V _ _ _ _ _ _ _ _ _ [_, _, _, _, _, _, _, _, _, _] _ _
  refine z_aload_n dX8_follow_126 rfl rfl ?_
  refine z_getR dX8_follow_127 fl_X8_12 rfl rfl rfl ?_
  refine z_cV1 dX8_follow_130 ml_X8_104 (sp_pop (e := e) (Or.inr rfl) (show _ = nI (e + 1) by simp [z_up]) (by omega)) rfl ⟨by decide, rfl⟩ rfl rfl (Nat.le_of_ble_eq_true rfl) ?_
  rw [show z_up σ 20 2 (nI (e + 1)) (20 + 2) e = nI a from (congrFun (z_up_ne _ _ _ (by decide)) e).trans ha]
  refine z_istore dX8_follow_133 (by decide) ?_
  show z_V _ _ _ _ _ _ _ _ _ [_, _, _, _, _, _, _, _, _, _] _ _
  refine z_aload_n dX8_follow_135 rfl rfl ?_
  refine z_getR dX8_follow_136 fl_X8_12 rfl rfl rfl ?_
  refine z_aload_n dX8_follow_139 rfl rfl ?_
  refine z_aload_n dX8_follow_140 rfl rfl ?_
  refine z_getR dX8_follow_141 fl_X8_66 rfl hk.1 hr.2.1 ?_
  refine z_iload dX8_follow_144 rfl ?_
  refine z_iload dX8_follow_146 rfl ?_
  refine z_iload dX8_follow_148 rfl ?_
  refine z_cV1 dX8_follow_150 ml_X8_108 (sp_combine (σ := po (po σ 20 (e + 1)) 20 e) ht (show _ = nI n by rw [po_ne (tr_ne' (by decide) 1), po_ne (tr_ne' (by decide) 1)]; exact hn) h36 (show _ = nI c by rw [po_ne (by decide), po_ne (by decide)]; exact hc) hc30 (by decide) (by decide) ha36 hb36) rfl ⟨by decide, rfl⟩ rfl rfl (Nat.le_of_ble_eq_true rfl) ?_
  refine z_cV0 dX8_follow_153 ml_X8_101 (sp_push (e := e) (Or.inr rfl) (show _ = nI e by rw [cmb_20 (by omega)]; simp [po, z_up]) (by omega)) rfl ⟨by decide, rfl⟩ rfl rfl (Nat.le_of_ble_eq_true rfl) ?_
  refine z_goto (tgt := 225) dX8_follow_156 (by decide) ?_
  exact z_vret dX8_follow_225 rfl rfl rfl
set_option maxRecDepth 100000 in
set_option maxHeartbeats 4000000 in
theorem sp_fl7 {d : Nat} {σ : Nat → Nat → Int32} {τ : Nat → Nat → Int64} {t p n e : Nat} {y : Int32} (ht : t < 4) (hp : p < 40) (hop : σ 2 p = nI 7) {c a b : Nat} (hn : σ (tr t + 1) 4 = nI n) (h36 : n < 36) (hc : σ 19 3 = nI c) (hc30 : c < 30) (he : σ 20 2 = nI (e + 2)) (he6 : e + 1 < 6) (hb : σ 22 (e + 1) = nI b) (hb36 : b < 36) (ha : σ 22 e = nI a) (ha36 : a < 36) : z_MV M_X8_follow (d + 2) 0 0 [.ref 19, .ref (tr t), .int (nI p), .int y, .ref 1] (124, z_r0, σ, τ) (none) (124, z_r0, pu (cmb (po (po σ 20 (e + 1)) 20 e) (tr t) n 7 a b).2 20 e (nI (cmb (po (po σ 20 (e + 1)) 20 e) (tr t) n 7 a b).1), τ) := by
  refine z_MV.of pn_X8_follow (Nat.le_of_ble_eq_true rfl) (by simp [Value.category]) rfl ?_
  show z_V _ _ _ _ _ _ _ _ _ [_, _, _, _, _, _, _, _, _, _] _ _
  have hk := tr_k ht
  have hr := tr_r ht
  refine z_aload dX8_follow_0 rfl ?_
  refine z_getR dX8_follow_2 fl_X8_87 rfl rfl rfl ?_
  refine z_iload_n dX8_follow_5 rfl rfl ?_
  refine z_iald dX8_follow_6 rfl rfl (by omega) hop ?_
  refine z_istore dX8_follow_7 (by decide) ?_
  show z_V _ _ _ _ _ _ _ _ _ [_, _, _, _, _, _, _, _, _, _] _ _
  refine z_aload dX8_follow_9 rfl ?_
  refine z_getR dX8_follow_11 fl_X8_92 rfl rfl rfl ?_
  refine z_iload_n dX8_follow_14 rfl rfl ?_
  refine z_iald dX8_follow_15 rfl rfl (by omega) rfl ?_
  refine z_istore dX8_follow_16 (by decide) ?_
  show z_V _ _ _ _ _ _ _ _ _ [_, _, _, _, _, _, _, _, _, _] _ _
  refine z_iload dX8_follow_18 rfl ?_
  refine z_tableIn (off := 97) (tgt := 117) dX8_follow_20 (by decide) (by decide) (by decide) (by decide) ?_
  refine z_aload_n dX8_follow_117 rfl rfl ?_
  refine z_getR dX8_follow_118 fl_X8_12 rfl rfl rfl ?_
  refine z_cV1 dX8_follow_121 ml_X8_104 (sp_pop (Or.inr rfl) he (by omega)) rfl ⟨by decide, rfl⟩ rfl rfl (Nat.le_of_ble_eq_true rfl) ?_
  rw [show σ (20 + 2) (e + 1) = nI b from hb]
  refine z_istore dX8_follow_124 (by decide) ?_
  show z_V _ _ _ _ _ _ _ _ _ [_, _, _, _, _, _, _, _, _, _] _ _
  refine z_aload_n dX8_follow_126 rfl rfl ?_
  refine z_getR dX8_follow_127 fl_X8_12 rfl rfl rfl ?_
  refine z_cV1 dX8_follow_130 ml_X8_104 (sp_pop (e := e) (Or.inr rfl) (show _ = nI (e + 1) by simp [z_up]) (by omega)) rfl ⟨by decide, rfl⟩ rfl rfl (Nat.le_of_ble_eq_true rfl) ?_
  rw [show z_up σ 20 2 (nI (e + 1)) (20 + 2) e = nI a from (congrFun (z_up_ne _ _ _ (by decide)) e).trans ha]
  refine z_istore dX8_follow_133 (by decide) ?_
  show z_V _ _ _ _ _ _ _ _ _ [_, _, _, _, _, _, _, _, _, _] _ _
  refine z_aload_n dX8_follow_135 rfl rfl ?_
  refine z_getR dX8_follow_136 fl_X8_12 rfl rfl rfl ?_
  refine z_aload_n dX8_follow_139 rfl rfl ?_
  refine z_aload_n dX8_follow_140 rfl rfl ?_
  refine z_getR dX8_follow_141 fl_X8_66 rfl hk.1 hr.2.1 ?_
  refine z_iload dX8_follow_144 rfl ?_
  refine z_iload dX8_follow_146 rfl ?_
  refine z_iload dX8_follow_148 rfl ?_
  refine z_cV1 dX8_follow_150 ml_X8_108 (sp_combine (σ := po (po σ 20 (e + 1)) 20 e) ht (show _ = nI n by rw [po_ne (tr_ne' (by decide) 1), po_ne (tr_ne' (by decide) 1)]; exact hn) h36 (show _ = nI c by rw [po_ne (by decide), po_ne (by decide)]; exact hc) hc30 (by decide) (by decide) ha36 hb36) rfl ⟨by decide, rfl⟩ rfl rfl (Nat.le_of_ble_eq_true rfl) ?_
  refine z_cV0 dX8_follow_153 ml_X8_101 (sp_push (e := e) (Or.inr rfl) (show _ = nI e by rw [cmb_20 (by omega)]; simp [po, z_up]) (by omega)) rfl ⟨by decide, rfl⟩ rfl rfl (Nat.le_of_ble_eq_true rfl) ?_
  refine z_goto (tgt := 225) dX8_follow_156 (by decide) ?_
  exact z_vret dX8_follow_225 rfl rfl rfl
set_option maxRecDepth 100000 in
set_option maxHeartbeats 4000000 in
theorem sp_fl8 {d : Nat} {σ : Nat → Nat → Int32} {τ : Nat → Nat → Int64} {t p n e : Nat} {y : Int32} (ht : t < 4) (hp : p < 40) (hop : σ 2 p = nI 8) {c a b : Nat} (hn : σ (tr t + 1) 4 = nI n) (h36 : n < 36) (hc : σ 19 3 = nI c) (hc30 : c < 30) (he : σ 20 2 = nI (e + 2)) (he6 : e + 1 < 6) (hb : σ 22 (e + 1) = nI b) (hb36 : b < 36) (ha : σ 22 e = nI a) (ha36 : a < 36) : z_MV M_X8_follow (d + 2) 0 0 [.ref 19, .ref (tr t), .int (nI p), .int y, .ref 1] (124, z_r0, σ, τ) (none) (124, z_r0, pu (cmb (po (po σ 20 (e + 1)) 20 e) (tr t) n 8 a b).2 20 e (nI (cmb (po (po σ 20 (e + 1)) 20 e) (tr t) n 8 a b).1), τ) := by
  refine z_MV.of pn_X8_follow (Nat.le_of_ble_eq_true rfl) (by simp [Value.category]) rfl ?_
  show z_V _ _ _ _ _ _ _ _ _ [_, _, _, _, _, _, _, _, _, _] _ _
  have hk := tr_k ht
  have hr := tr_r ht
  refine z_aload dX8_follow_0 rfl ?_
  refine z_getR dX8_follow_2 fl_X8_87 rfl rfl rfl ?_
  refine z_iload_n dX8_follow_5 rfl rfl ?_
  refine z_iald dX8_follow_6 rfl rfl (by omega) hop ?_
  refine z_istore dX8_follow_7 (by decide) ?_
  show z_V _ _ _ _ _ _ _ _ _ [_, _, _, _, _, _, _, _, _, _] _ _
  refine z_aload dX8_follow_9 rfl ?_
  refine z_getR dX8_follow_11 fl_X8_92 rfl rfl rfl ?_
  refine z_iload_n dX8_follow_14 rfl rfl ?_
  refine z_iald dX8_follow_15 rfl rfl (by omega) rfl ?_
  refine z_istore dX8_follow_16 (by decide) ?_
  show z_V _ _ _ _ _ _ _ _ _ [_, _, _, _, _, _, _, _, _, _] _ _
  refine z_iload dX8_follow_18 rfl ?_
  refine z_tableIn (off := 97) (tgt := 117) dX8_follow_20 (by decide) (by decide) (by decide) (by decide) ?_
  refine z_aload_n dX8_follow_117 rfl rfl ?_
  refine z_getR dX8_follow_118 fl_X8_12 rfl rfl rfl ?_
  refine z_cV1 dX8_follow_121 ml_X8_104 (sp_pop (Or.inr rfl) he (by omega)) rfl ⟨by decide, rfl⟩ rfl rfl (Nat.le_of_ble_eq_true rfl) ?_
  rw [show σ (20 + 2) (e + 1) = nI b from hb]
  refine z_istore dX8_follow_124 (by decide) ?_
  show z_V _ _ _ _ _ _ _ _ _ [_, _, _, _, _, _, _, _, _, _] _ _
  refine z_aload_n dX8_follow_126 rfl rfl ?_
  refine z_getR dX8_follow_127 fl_X8_12 rfl rfl rfl ?_
  refine z_cV1 dX8_follow_130 ml_X8_104 (sp_pop (e := e) (Or.inr rfl) (show _ = nI (e + 1) by simp [z_up]) (by omega)) rfl ⟨by decide, rfl⟩ rfl rfl (Nat.le_of_ble_eq_true rfl) ?_
  rw [show z_up σ 20 2 (nI (e + 1)) (20 + 2) e = nI a from (congrFun (z_up_ne _ _ _ (by decide)) e).trans ha]
  refine z_istore dX8_follow_133 (by decide) ?_
  show z_V _ _ _ _ _ _ _ _ _ [_, _, _, _, _, _, _, _, _, _] _ _
  refine z_aload_n dX8_follow_135 rfl rfl ?_
  refine z_getR dX8_follow_136 fl_X8_12 rfl rfl rfl ?_
  refine z_aload_n dX8_follow_139 rfl rfl ?_
  refine z_aload_n dX8_follow_140 rfl rfl ?_
  refine z_getR dX8_follow_141 fl_X8_66 rfl hk.1 hr.2.1 ?_
  refine z_iload dX8_follow_144 rfl ?_
  refine z_iload dX8_follow_146 rfl ?_
  refine z_iload dX8_follow_148 rfl ?_
  refine z_cV1 dX8_follow_150 ml_X8_108 (sp_combine (σ := po (po σ 20 (e + 1)) 20 e) ht (show _ = nI n by rw [po_ne (tr_ne' (by decide) 1), po_ne (tr_ne' (by decide) 1)]; exact hn) h36 (show _ = nI c by rw [po_ne (by decide), po_ne (by decide)]; exact hc) hc30 (by decide) (by decide) ha36 hb36) rfl ⟨by decide, rfl⟩ rfl rfl (Nat.le_of_ble_eq_true rfl) ?_
  refine z_cV0 dX8_follow_153 ml_X8_101 (sp_push (e := e) (Or.inr rfl) (show _ = nI e by rw [cmb_20 (by omega)]; simp [po, z_up]) (by omega)) rfl ⟨by decide, rfl⟩ rfl rfl (Nat.le_of_ble_eq_true rfl) ?_
  refine z_goto (tgt := 225) dX8_follow_156 (by decide) ?_
  exact z_vret dX8_follow_225 rfl rfl rfl
set_option maxRecDepth 100000 in
set_option maxHeartbeats 4000000 in
theorem sp_fl12 {d : Nat} {σ : Nat → Nat → Int32} {τ : Nat → Nat → Int64} {t p n e : Nat} {y : Int32} (ht : t < 4) (hp : p < 40) (hop : σ 2 p = nI 12) {c q : Nat} (hc : σ 19 3 = nI c) (hc30 : c < 30) (he : σ 20 2 = nI (e + 1)) (he6 : e < 6) (hq : σ 22 e = nI q) (hq36 : q < 36) : z_MV M_X8_follow (d + 2) 0 0 [.ref 19, .ref (tr t), .int (nI p), .int y, .ref 1] (124, z_r0, σ, τ) (none) (124, z_r0, cmS (z_up (po σ 20 e) 25 q 1) (nI 2) (nI q), τ) := by
  refine z_MV.of pn_X8_follow (Nat.le_of_ble_eq_true rfl) (by simp [Value.category]) rfl ?_
  show z_V _ _ _ _ _ _ _ _ _ [_, _, _, _, _, _, _, _, _, _] _ _
  have hk := tr_k ht
  have hr := tr_r ht
  refine z_aload dX8_follow_0 rfl ?_
  refine z_getR dX8_follow_2 fl_X8_87 rfl rfl rfl ?_
  refine z_iload_n dX8_follow_5 rfl rfl ?_
  refine z_iald dX8_follow_6 rfl rfl (by omega) hop ?_
  refine z_istore dX8_follow_7 (by decide) ?_
  show z_V _ _ _ _ _ _ _ _ _ [_, _, _, _, _, _, _, _, _, _] _ _
  refine z_aload dX8_follow_9 rfl ?_
  refine z_getR dX8_follow_11 fl_X8_92 rfl rfl rfl ?_
  refine z_iload_n dX8_follow_14 rfl rfl ?_
  refine z_iald dX8_follow_15 rfl rfl (by omega) rfl ?_
  refine z_istore dX8_follow_16 (by decide) ?_
  show z_V _ _ _ _ _ _ _ _ _ [_, _, _, _, _, _, _, _, _, _] _ _
  refine z_iload dX8_follow_18 rfl ?_
  refine z_tableIn (off := 139) (tgt := 159) dX8_follow_20 (by decide) (by decide) (by decide) (by decide) ?_
  refine z_aload_n dX8_follow_159 rfl rfl ?_
  refine z_getR dX8_follow_160 fl_X8_12 rfl rfl rfl ?_
  refine z_cV1 dX8_follow_163 ml_X8_104 (sp_pop (Or.inr rfl) he he6) rfl ⟨by decide, rfl⟩ rfl rfl (Nat.le_of_ble_eq_true rfl) ?_
  rw [show σ (20 + 2) e = nI q from hq]
  refine z_istore dX8_follow_166 (by decide) ?_
  show z_V _ _ _ _ _ _ _ _ _ [_, _, _, _, _, _, _, _, _, _] _ _
  refine z_aload_n dX8_follow_168 rfl rfl ?_
  refine z_getR dX8_follow_169 fl_X8_25 rfl rfl rfl ?_
  refine z_iload dX8_follow_172 rfl ?_
  refine z_iconst (v := 1) dX8_follow_174 (by decide) ?_
  refine z_zast dX8_follow_175 rfl rfl (by omega) (by first | exact Or.inl rfl | exact Or.inr rfl) ?_
  refine z_aload_n dX8_follow_176 rfl rfl ?_
  refine z_iconst (v := nI 2) dX8_follow_177 (by decide) ?_
  refine z_iload dX8_follow_178 rfl ?_
  refine z_cV0 dX8_follow_180 ml_X8_112 (sp_came (show _ = nI c by simp [z_up, hc]) hc30) rfl ⟨by decide, rfl⟩ rfl rfl (Nat.le_of_ble_eq_true rfl) ?_
  refine z_goto (tgt := 225) dX8_follow_183 (by decide) ?_
  exact z_vret dX8_follow_225 rfl rfl rfl
set_option maxRecDepth 100000 in
set_option maxHeartbeats 4000000 in
theorem sp_fl14 {d : Nat} {σ : Nat → Nat → Int32} {τ : Nat → Nat → Int64} {t p n e : Nat} {y : Int32} (ht : t < 4) (hp : p < 40) (hop : σ 2 p = nI 14) {c g q : Nat} (hy : y = 0 ∨ y = 1) (hg : σ (tr t + 6) 5 = nI g) (hg15 : g < 15) (hc : σ 19 3 = nI c) (hc30 : c < 30) (he : σ 20 2 = nI (e + 1)) (he6 : e < 6) (hq : σ 22 e = nI q) (hq36 : q < 36) (hl : ∀ l, l < 6 → ∃ q, q < 36 ∧ σ 21 l = nI q) (hs : ∀ s, s < e → ∃ q, q < 36 ∧ σ 22 s = nI q) : z_MV M_X8_follow (d + 2) 0 0 [.ref 19, .ref (tr t), .int (nI p), .int y, .ref 1] (124, z_r0, σ, τ) (none) (124, z_r0, gdS (po σ 20 e) (tr t) q y (if y = 0 then σ 3 p else nI (p + 1)), τ) := by
  refine z_MV.of pn_X8_follow (Nat.le_of_ble_eq_true rfl) (by simp [Value.category]) rfl ?_
  show z_V _ _ _ _ _ _ _ _ _ [_, _, _, _, _, _, _, _, _, _] _ _
  have hk := tr_k ht
  have hr := tr_r ht
  refine z_aload dX8_follow_0 rfl ?_
  refine z_getR dX8_follow_2 fl_X8_87 rfl rfl rfl ?_
  refine z_iload_n dX8_follow_5 rfl rfl ?_
  refine z_iald dX8_follow_6 rfl rfl (by omega) hop ?_
  refine z_istore dX8_follow_7 (by decide) ?_
  show z_V _ _ _ _ _ _ _ _ _ [_, _, _, _, _, _, _, _, _, _] _ _
  refine z_aload dX8_follow_9 rfl ?_
  refine z_getR dX8_follow_11 fl_X8_92 rfl rfl rfl ?_
  refine z_iload_n dX8_follow_14 rfl rfl ?_
  refine z_iald dX8_follow_15 rfl rfl (by omega) rfl ?_
  refine z_istore dX8_follow_16 (by decide) ?_
  show z_V _ _ _ _ _ _ _ _ _ [_, _, _, _, _, _, _, _, _, _] _ _
  refine z_iload dX8_follow_18 rfl ?_
  refine z_tableIn (off := 166) (tgt := 186) dX8_follow_20 (by decide) (by decide) (by decide) (by decide) ?_
  refine z_aload_n dX8_follow_186 rfl rfl ?_
  refine z_aload_n dX8_follow_187 rfl rfl ?_
  refine z_aload_n dX8_follow_188 rfl rfl ?_
  refine z_getR dX8_follow_189 fl_X8_12 rfl rfl rfl ?_
  refine z_cV1 dX8_follow_192 ml_X8_104 (sp_pop (Or.inr rfl) he he6) rfl ⟨by decide, rfl⟩ rfl rfl (Nat.le_of_ble_eq_true rfl) ?_
  rw [show σ (20 + 2) e = nI q from hq]
  refine z_iload_n dX8_follow_195 rfl rfl ?_
  refine z_iload_n dX8_follow_196 rfl rfl ?_
  refine z_if_eq (tgt := 206) dX8_follow_197 (by decide) (fun c197 => ?_) (fun c197 => ?_)
  · refine z_iload dX8_follow_206 rfl ?_
    refine z_cV0 dX8_follow_208 ml_X8_116 (sp_guard (σ := po σ 20 e) (c := c) (e := e) ht hq36 hy (show _ = nI g by rw [po_ne (tr_ne' (by decide) 6)]; exact hg) hg15 (show _ = nI c by rw [po_ne (by decide)]; exact hc) hc30 (show _ = nI e by simp [po, z_up]) (by omega) (by rw [po_ne (by decide)]; exact hl) (by rw [po_ne (by decide)]; exact hs)) rfl ⟨by decide, rfl⟩ rfl rfl (Nat.le_of_ble_eq_true rfl) ?_
    refine z_goto (tgt := 225) dX8_follow_211 (by decide) ?_
    exact z_vret dX8_follow_225 rfl rfl (by simp [c197])
  · refine z_iload_n dX8_follow_200 rfl rfl ?_
    refine z_iconst (v := 1) dX8_follow_201 (by decide) ?_
    refine z_iadd dX8_follow_202 (nI_1 _) ?_
    refine z_goto (tgt := 208) dX8_follow_203 (by decide) ?_
    refine z_cV0 dX8_follow_208 ml_X8_116 (sp_guard (σ := po σ 20 e) (c := c) (e := e) ht hq36 hy (show _ = nI g by rw [po_ne (tr_ne' (by decide) 6)]; exact hg) hg15 (show _ = nI c by rw [po_ne (by decide)]; exact hc) hc30 (show _ = nI e by simp [po, z_up]) (by omega) (by rw [po_ne (by decide)]; exact hl) (by rw [po_ne (by decide)]; exact hs)) rfl ⟨by decide, rfl⟩ rfl rfl (Nat.le_of_ble_eq_true rfl) ?_
    refine z_goto (tgt := 225) dX8_follow_211 (by decide) ?_
    exact z_vret dX8_follow_225 rfl rfl (by simp [c197])
