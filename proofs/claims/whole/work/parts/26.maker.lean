/-! PART 26: TraceMaker: came, forgetLast, markParts, markConstant, sortOut, guard, combine -/
theorem z_Vx {M : z_M} {d mc ms rc rs : Nat} {r : Option Value} {X1 : z_X} {n : Nat} {ρ : Nat → Nat → Option Nat} {σ σ' : Nat → Nat → Int32} {τ : Nat → Nat → Int64} {pc : Nat} {lv : List (Option Value)} {st : List Value} (h : σ' = σ) (k : z_V M d mc ms rc rs r X1 pc lv st (n, ρ, σ', τ)) : z_V M d mc ms rc rs r X1 pc lv st (n, ρ, σ, τ) := h ▸ k
/-- the least j below n with P, or n -/
def fnd (P : Nat → Bool) : Nat → Nat
  | 0 => 0
  | n + 1 => if fnd P n < n then fnd P n else if P n then n else n + 1
theorem fnd_le (P : Nat → Bool) (n : Nat) : fnd P n ≤ n := by
  induction n with
  | zero => simp [fnd]
  | succ n ih => simp only [fnd]; split <;> (try split) <;> omega
theorem fnd_spec (P : Nat → Bool) (n : Nat) : (fnd P n < n → P (fnd P n) = true) ∧ ∀ j, j < fnd P n → P j = false := by
  induction n with
  | zero => exact ⟨fun h => by omega, fun j h => by simp [fnd] at h⟩
  | succ n ih =>
    simp only [fnd]
    split
    next h => exact ⟨fun _ => ih.1 h, ih.2⟩
    next h =>
      have he : fnd P n = n := by have := fnd_le P n; omega
      rw [he] at ih
      split
      next hp => exact ⟨fun _ => hp, ih.2⟩
      next hp =>
        refine ⟨fun h => by omega, fun j hj => ?_⟩
        by_cases hjn : j = n
        · subst hjn; simpa using hp
        · exact ih.2 j (by omega)
def mtB (σ : Nat → Nat → Int32) (T : Nat) (k l r : Int32) (j : Nat) : Bool := decide (σ (T + 2) j = k) && decide (σ (T + 3) j = l) && decide (σ (T + 4) j = r)
theorem mtB_iff {σ : Nat → Nat → Int32} {T : Nat} {k l r : Int32} {j : Nat} : mtB σ T k l r j = true ↔ mt σ T j k l r := by
  simp [mtB, mt, and_assoc]
def shI (σ : Nat → Nat → Int32) (T n : Nat) (k l r : Int32) : Nat := fnd (mtB σ T k l r) n
def shS (σ : Nat → Nat → Int32) (T n : Nat) (k l r : Int32) : Nat → Nat → Int32 := if shI σ T n k l r < n then σ else shr σ T n k l r
theorem sp_shareF {d : Nat} {σ : Nat → Nat → Int32} {τ : Nat → Nat → Int64} {t n : Nat} {k l r : Int32} (ht : t < 4) (hn : σ (tr t + 1) 4 = nI n) (h36 : n < 36) : z_MV M_X9_share d 0 0 [.ref (tr t + 1), .int k, .int l, .int r] (124, z_r0, σ, τ) (some (.int (nI (shI σ (tr t) n k l r)))) (124, z_r0, shS σ (tr t) n k l r, τ) := by
  have hs := fnd_spec (mtB σ (tr t) k l r) n
  have hle := fnd_le (mtB σ (tr t) k l r) n
  unfold shS
  split
  next h => exact sp_share_old ht hn (by omega) h (mtB_iff.mp (hs.1 h)) (fun j hj q => absurd (hs.2 j hj) (by rw [mtB_iff.mpr q]; decide))
  next h =>
    have he : shI σ (tr t) n k l r = n := by unfold shI at *; omega
    rw [he]
    exact sp_share_new ht hn h36 (fun j hj q => absurd (hs.2 j (by unfold shI at he; omega)) (by rw [mtB_iff.mpr q]; decide))
def hsB (σ : Nat → Nat → Int32) (T : Nat) (x y : Int32) (j : Nat) : Bool := decide (σ (T + 7) j = x) && decide (σ (T + 8) j = y)
theorem hsB_iff {σ : Nat → Nat → Int32} {T : Nat} {x y : Int32} {j : Nat} : hsB σ T x y j = true ↔ (σ (T + 7) j = x ∧ σ (T + 8) j = y) := by simp [hsB]
theorem sp_hasF {d : Nat} {σ : Nat → Nat → Int32} {τ : Nat → Nat → Int64} {t n : Nat} {x y : Int32} (ht : t < 4) (hn : σ (tr t + 6) 5 = nI n) (h15 : n ≤ 15) : z_MV M_X3_has d 0 0 [.ref (tr t + 6), .int x, .int y] (124, z_r0, σ, τ) (some (.int (b2i (fnd (hsB σ (tr t) x y) n < n)))) (124, z_r0, σ, τ) := by
  have hs := fnd_spec (hsB σ (tr t) x y) n
  have hle := fnd_le (hsB σ (tr t) x y) n
  by_cases h : fnd (hsB σ (tr t) x y) n < n
  · rw [b2i_t h]
    exact sp_has_yes ht hn h15 h (hsB_iff.mp (hs.1 h)) (fun j hj q => absurd (hs.2 j hj) (by rw [hsB_iff.mpr q]; decide))
  · rw [b2i_f h]
    exact sp_has_no ht hn h15 (fun j hj q => absurd (hs.2 j (by omega)) (by rw [hsB_iff.mpr q]; decide))
def cmS (σ : Nat → Nat → Int32) (x y : Int32) : Nat → Nat → Int32 := z_up (z_up (z_up σ 23 (tN (σ 19 3)) x) 24 (tN (σ 19 3)) y) 19 3 (nI (tN (σ 19 3) + 1))
def mkN (σ : Nat → Nat → Int32) (a : Nat) : Nat → Nat → Nat → Int32
  | 0 => σ
  | i + 1 => z_up (mkN σ a i) 25 (tN (σ a i)) 1
theorem mkN_ne (σ : Nat → Nat → Int32) (a i : Nat) {b : Nat} (h : b ≠ 25) : mkN σ a i b = σ b := by
  induction i with
  | zero => rfl
  | succ i ih => simp only [mkN]; rw [z_up_ne _ _ _ h, ih]
set_option maxRecDepth 100000 in
set_option maxHeartbeats 4000000 in
theorem sp_came {d : Nat} {σ : Nat → Nat → Int32} {τ : Nat → Nat → Int64} {c : Nat} {x y : Int32} (hc : σ 19 3 = nI c) (hl : c < 30) : z_MV M_X8_came d 0 0 [.ref 19, .int x, .int y] (124, z_r0, σ, τ) (none) (124, z_r0, cmS σ x y, τ) := by
  refine z_MV.of pn_X8_came (Nat.le_of_ble_eq_true rfl) (by simp [Value.category]) rfl ?_
  show z_V _ _ _ _ _ _ _ _ _ [_, _, _] _ _
  refine z_aload_n dX8_came_0 rfl rfl ?_
  refine z_getR dX8_came_1 fl_X8_18 rfl rfl rfl ?_
  refine z_aload_n dX8_came_4 rfl rfl ?_
  refine z_getI dX8_came_5 fl_X8_84 rfl rfl (show _ = nI c by simp [z_up, hc]) ?_
  refine z_iload_n dX8_came_8 rfl rfl ?_
  refine z_iast dX8_came_9 rfl rfl (by omega) ?_
  refine z_aload_n dX8_came_10 rfl rfl ?_
  refine z_getR dX8_came_11 fl_X8_22 rfl rfl rfl ?_
  refine z_aload_n dX8_came_14 rfl rfl ?_
  refine z_getI dX8_came_15 fl_X8_84 rfl rfl (show _ = nI c by simp [z_up, hc]) ?_
  refine z_iload_n dX8_came_18 rfl rfl ?_
  refine z_iast dX8_came_19 rfl rfl (by omega) ?_
  refine z_aload_n dX8_came_20 rfl rfl ?_
  refine z_dup dX8_came_21 rfl ?_
  refine z_getI dX8_came_22 fl_X8_84 rfl rfl (show _ = nI c by simp [z_up, hc]) ?_
  refine z_iconst (v := 1) dX8_came_25 (by decide) ?_
  refine z_iadd dX8_came_26 (nI_1 _) ?_
  refine z_putI dX8_came_27 fl_X8_84 rfl rfl (Or.inl rfl) rfl ?_
  exact z_vret dX8_came_30 rfl rfl (by simp [cmS, hc, tN_nI (show c < 2 ^ 31 by omega)])
def fg1 (σ : Nat → Nat → Int32) : Nat → Nat → Int32 := z_up (z_up (fillR σ 21 0 6) 20 2 0) 20 3 0
def fg2 (σ : Nat → Nat → Int32) (i : Nat) : Nat → Nat → Int32 := rowF (fg1 σ) 21 (fun l => nI l) i
def fg3 (σ : Nat → Nat → Int32) : Nat → Nat → Int32 := z_up (fg2 σ 6) 19 3 0
def fg4 (σ : Nat → Nat → Int32) (i : Nat) : Nat → Nat → Int32 := rowF (fg3 σ) 25 (fun _ => 0) i
set_option maxRecDepth 100000 in
set_option maxHeartbeats 4000000 in
theorem forget_loop2 {d : Nat} {σ : Nat → Nat → Int32} {τ : Nat → Nat → Int64} : ∀ (m v : Nat), v ≤ 36 → 36 - v < m → z_V M_X8_forgetLast (d + 2) 0 0 0 0 none (124, z_r0, fg4 σ 36, τ) 38 [some (.ref 19), some (.int (nI v))] [] (124, z_r0, fg4 σ v, τ) := by
  intro m
  induction m with
  | zero => intro v _ h; omega
  | succ m ih =>
    intro v hv1 hv2
    refine z_iload_n dX8_forgetLast_38 rfl rfl ?_
    refine z_bipush (v := nI 36) dX8_forgetLast_39 (by decide) ?_
    refine z_icmp_ge (tgt := 57) dX8_forgetLast_41 (by decide) (fun c41 => ?_) (fun c41 => ?_)
    · have e0 : 36 = v := by
        rcases Nat.lt_or_ge v 36 with q | q
        · exact absurd c41 (nI_ge q (by omega))
        · omega
      subst e0
      exact z_vret dX8_forgetLast_57 rfl rfl rfl
    · have hlt : v < 36 := by
        rcases Nat.lt_or_ge v 36 with q | q
        · exact q
        · exact absurd (nI_le q (by omega)) c41
      refine z_aload_n dX8_forgetLast_44 rfl rfl ?_
      refine z_getR dX8_forgetLast_45 fl_X8_25 rfl rfl rfl ?_
      refine z_iload_n dX8_forgetLast_48 rfl rfl ?_
      refine z_iconst (v := 0) dX8_forgetLast_49 (by decide) ?_
      refine z_zast dX8_forgetLast_50 rfl rfl (by omega) (by first | exact Or.inl rfl | exact Or.inr rfl) ?_
      refine z_iinc dX8_forgetLast_51 rfl (nI_i _) (by decide) ?_
      show z_V _ _ _ _ _ _ _ _ _ [_, _] _ _
      refine z_goto (tgt := 38) dX8_forgetLast_54 (by decide) ?_
      rw [show z_up (fg4 σ v) 25 v 0 = fg4 σ (v + 1) from rowF_s _ _ (fun _ => 0) _]
      exact ih (v + 1) (by omega) (by omega)
set_option maxRecDepth 100000 in
set_option maxHeartbeats 4000000 in
theorem forget_loop1 {d : Nat} {σ : Nat → Nat → Int32} {τ : Nat → Nat → Int64} : ∀ (m v : Nat), v ≤ 6 → 6 - v < m → z_V M_X8_forgetLast (d + 2) 0 0 0 0 none (124, z_r0, fg4 σ 36, τ) 9 [some (.ref 19), some (.int (nI v))] [] (124, z_r0, fg2 σ v, τ) := by
  intro m
  induction m with
  | zero => intro v _ h; omega
  | succ m ih =>
    intro v hv1 hv2
    refine z_iload_n dX8_forgetLast_9 rfl rfl ?_
    refine z_bipush (v := nI 6) dX8_forgetLast_10 (by decide) ?_
    refine z_icmp_ge (tgt := 31) dX8_forgetLast_12 (by decide) (fun c12 => ?_) (fun c12 => ?_)
    · have e0 : 6 = v := by
        rcases Nat.lt_or_ge v 6 with q | q
        · exact absurd c12 (nI_ge q (by omega))
        · omega
      subst e0
      refine z_aload_n dX8_forgetLast_31 rfl rfl ?_
      refine z_iconst (v := 0) dX8_forgetLast_32 (by decide) ?_
      refine z_putI dX8_forgetLast_33 fl_X8_84 rfl rfl (Or.inl rfl) rfl ?_
      refine z_iconst (v := 0) dX8_forgetLast_36 (by decide) ?_
      refine z_istore_n dX8_forgetLast_37 rfl (by decide) ?_
      show z_V _ _ _ _ _ _ _ _ _ [_, _] _ _
      have h2 := forget_loop2 (d := d) (σ := σ) (τ := τ) 37 0 (by omega) (by omega)
      rw [show fg4 σ 0 = fg3 σ from rowF_0 _ _ _] at h2
      exact h2
    · have hlt : v < 6 := by
        rcases Nat.lt_or_ge v 6 with q | q
        · exact q
        · exact absurd (nI_le q (by omega)) c12
      refine z_aload_n dX8_forgetLast_15 rfl rfl ?_
      refine z_getR dX8_forgetLast_16 fl_X8_12 rfl rfl rfl ?_
      refine z_getR dX8_forgetLast_19 fl_X8_63 rfl rfl rfl ?_
      refine z_iload_n dX8_forgetLast_22 rfl rfl ?_
      refine z_iload_n dX8_forgetLast_23 rfl rfl ?_
      refine z_iast dX8_forgetLast_24 rfl rfl (by omega) ?_
      refine z_iinc dX8_forgetLast_25 rfl (nI_i _) (by decide) ?_
      show z_V _ _ _ _ _ _ _ _ _ [_, _] _ _
      refine z_goto (tgt := 9) dX8_forgetLast_28 (by decide) ?_
      rw [show z_up (fg2 σ v) 21 v (nI v) = fg2 σ (v + 1) from rowF_s _ _ (fun l => nI l) _]
      exact ih (v + 1) (by omega) (by omega)
set_option maxRecDepth 100000 in
set_option maxHeartbeats 4000000 in
theorem sp_forgetLast {d : Nat} {σ : Nat → Nat → Int32} {τ : Nat → Nat → Int64} : z_MV M_X8_forgetLast (d + 2) 0 0 [.ref 19] (124, z_r0, σ, τ) (none) (124, z_r0, fg4 σ 36, τ) := by
  refine z_MV.of pn_X8_forgetLast (Nat.le_of_ble_eq_true rfl) (by simp [Value.category]) rfl ?_
  show z_V _ _ _ _ _ _ _ _ _ [_, _] _ _
  refine z_aload_n dX8_forgetLast_0 rfl rfl ?_
  refine z_getR dX8_forgetLast_1 fl_X8_12 rfl rfl rfl ?_
  refine z_cV0 dX8_forgetLast_4 ml_X8_81 (sp_freset (Or.inr rfl)) rfl ⟨by decide, rfl⟩ rfl rfl (Nat.le_of_ble_eq_true rfl) ?_
  refine z_iconst (v := 0) dX8_forgetLast_7 (by decide) ?_
  refine z_istore_n dX8_forgetLast_8 rfl (by decide) ?_
  show z_V _ _ _ _ _ _ _ _ _ [_, _] _ _
  have h2 := forget_loop1 (d := d) (σ := σ) (τ := τ) 7 0 (by omega) (by omega)
  rw [show fg2 σ 0 = fg1 σ from rowF_0 _ _ _] at h2
  exact h2
def isOp (σ : Nat → Nat → Int32) (T v : Nat) : Prop := σ (T + 2) v ≠ 0 ∧ σ (T + 2) v ≠ 1
def mpT (σ : Nat → Nat → Int32) (T v : Nat) : Nat → Nat → Int32 := if σ 25 v ≠ 0 ∧ (σ (T + 2) v ≠ 0 ∧ σ (T + 2) v ≠ 1) then z_up (z_up σ 25 (tN (σ (T + 3) v)) 1) 25 (tN (σ (T + 4) v)) 1 else σ
def mpS (T : Nat) : Nat → (Nat → Nat → Int32) → Nat → Nat → Int32
  | 0, σ => σ
  | k + 1, σ => mpS T k (mpT σ T k)
theorem mpT_ne (σ : Nat → Nat → Int32) (T v : Nat) {b : Nat} (h : b ≠ 25) : mpT σ T v b = σ b := by
  unfold mpT
  split
  · rw [z_up_ne _ _ _ h, z_up_ne _ _ _ h]
  · rfl
theorem nI_dec (k : Nat) : nI k + Int32.ofInt (-1) = nI k - 1 := by
  rw [show Int32.ofInt (-1) = -1 by decide, Int32.sub_eq_add_neg]
def okP (σ : Nat → Nat → Int32) (T n : Nat) : Prop := ∀ v, v < n → (σ (T + 2) v ≠ 0 ∧ σ (T + 2) v ≠ 1) → (∃ a, a < 36 ∧ σ (T + 3) v = nI a) ∧ ∃ b, b < 36 ∧ σ (T + 4) v = nI b
set_option maxRecDepth 100000 in
set_option maxHeartbeats 4000000 in
theorem markParts_loop {d : Nat} {τ : Nat → Nat → Int64} {t : Nat} (ht : t < 4) : ∀ (k : Nat), k ≤ 36 → ∀ (σ : Nat → Nat → Int32), okP σ (tr t) k → z_V M_X8_markParts (d + 1) 0 0 0 0 none (124, z_r0, mpS (tr t) k σ, τ) 7 [some (.ref 19), some (.ref (tr t + 1)), some (.int (nI k - 1))] [] (124, z_r0, σ, τ) := by
  have hk := tr_k ht
  have hr := tr_r ht
  intro k
  induction k using Nat.strongRecOn with
  | ind k ih0 =>
    intro h36 σ hok
    have ih : ∀ j, j < k → ∀ (σ : Nat → Nat → Int32), okP σ (tr t) j → z_V M_X8_markParts (d + 1) 0 0 0 0 none (124, z_r0, mpS (tr t) j σ, τ) 7 [some (.ref 19), some (.ref (tr t + 1)), some (.int (nI j - 1))] [] (124, z_r0, σ, τ) := fun j hj => ih0 j hj (by omega)
    refine z_iload_n dX8_markParts_7 rfl rfl ?_
    refine z_if_lt (tgt := 58) dX8_markParts_8 (by decide) (fun c8 => ?_) (fun c8 => ?_)
    · have e0 : 0 = k := by
        rcases Nat.eq_zero_or_pos k with q | q
        · exact q.symm
        · obtain ⟨j, rfl⟩ : ∃ j, k = j + 1 := ⟨k - 1, by omega⟩
          rw [nI_pred] at c8
          exact absurd c8 (nI_pos (by omega))
      subst e0
      exact z_vret dX8_markParts_58 rfl rfl rfl
    · obtain ⟨j, rfl⟩ : ∃ j, k = j + 1 := by
        rcases Nat.eq_zero_or_pos k with q | q
        · subst q; exact absurd (by decide) c8
        · exact ⟨k - 1, by omega⟩
      rw [nI_pred]
      refine z_aload_n dX8_markParts_11 rfl rfl ?_
      refine z_getR dX8_markParts_12 fl_X8_25 rfl rfl rfl ?_
      refine z_iload_n dX8_markParts_15 rfl rfl ?_
      refine z_zald dX8_markParts_16 rfl rfl (by omega) rfl ?_
      refine z_if_eq (tgt := 52) dX8_markParts_17 (by decide) (fun c17 => ?_) (fun c17 => ?_)
      · have e1 : mpT σ (tr t) j = σ := by simp [mpT, c17]
        refine z_iinc dX8_markParts_52 rfl (nI_dec _) (by decide) ?_
        show z_V _ _ _ _ _ _ _ _ _ [_, _, _] _ _
        refine z_goto (tgt := 7) dX8_markParts_55 (by decide) ?_
        refine z_Vx e1 (ih j (by omega) (mpT σ (tr t) j) (fun v hv h => by rw [mpT_ne _ _ _ (tr_ne' (by decide) 2)] at h; rw [mpT_ne _ _ _ (tr_ne' (by decide) 3), mpT_ne _ _ _ (tr_ne' (by decide) 4)]; exact hok v (by omega) h))
      · refine z_aload_n dX8_markParts_20 rfl rfl ?_
        refine z_iload_n dX8_markParts_21 rfl rfl ?_
        refine z_cV1 dX8_markParts_22 ml_X8_156 (sp_isOperation ht (by omega)) hk.2.1 ⟨by decide, rfl⟩ rfl rfl (Nat.le_of_ble_eq_true rfl) ?_
        refine z_if_eq (tgt := 52) dX8_markParts_25 (by decide) (fun c25 => ?_) (fun c25 => ?_)
        · have e1 : mpT σ (tr t) j = σ := by
            rcases Decidable.em (σ (tr t + 2) j ≠ 0 ∧ σ (tr t + 2) j ≠ 1) with q | q
            · rw [b2i_t q] at c25; exact absurd c25 (by decide)
            · unfold mpT; rw [if_neg (fun z => q z.2)]
          refine z_iinc dX8_markParts_52 rfl (nI_dec _) (by decide) ?_
          show z_V _ _ _ _ _ _ _ _ _ [_, _, _] _ _
          refine z_goto (tgt := 7) dX8_markParts_55 (by decide) ?_
          refine z_Vx e1 (ih j (by omega) (mpT σ (tr t) j) (fun v hv h => by rw [mpT_ne _ _ _ (tr_ne' (by decide) 2)] at h; rw [mpT_ne _ _ _ (tr_ne' (by decide) 3), mpT_ne _ _ _ (tr_ne' (by decide) 4)]; exact hok v (by omega) h))
        · have hop : σ (tr t + 2) j ≠ 0 ∧ σ (tr t + 2) j ≠ 1 := by
            rcases Decidable.em (σ (tr t + 2) j ≠ 0 ∧ σ (tr t + 2) j ≠ 1) with q | q
            · exact q
            · rw [b2i_f q] at c25; exact absurd rfl c25
          obtain ⟨⟨a, ha, hla⟩, b, hb, hlb⟩ := hok j (by omega) hop
          have e1 : mpT σ (tr t) j = z_up (z_up σ 25 a 1) 25 b 1 := by unfold mpT; rw [if_pos ⟨c17, hop⟩, hla, hlb, tN_nI (by omega), tN_nI (by omega)]
          refine z_aload_n dX8_markParts_28 rfl rfl ?_
          refine z_getR dX8_markParts_29 fl_X8_25 rfl rfl rfl ?_
          refine z_aload_n dX8_markParts_32 rfl rfl ?_
          refine z_getR dX8_markParts_33 fl_X8_127 rfl hk.2.1 hr.2.2.2.2.2.2.2.2.1 ?_
          refine z_iload_n dX8_markParts_36 rfl rfl ?_
          refine z_iald dX8_markParts_37 hk.2.2.2.1 rfl (by omega) hla ?_
          refine z_iconst (v := 1) dX8_markParts_38 (by decide) ?_
          refine z_zast dX8_markParts_39 rfl rfl (by omega) (by first | exact Or.inl rfl | exact Or.inr rfl) ?_
          refine z_aload_n dX8_markParts_40 rfl rfl ?_
          refine z_getR dX8_markParts_41 fl_X8_25 rfl rfl rfl ?_
          refine z_aload_n dX8_markParts_44 rfl rfl ?_
          refine z_getR dX8_markParts_45 fl_X8_159 rfl hk.2.1 hr.2.2.2.2.2.2.2.2.2.1 ?_
          refine z_iload_n dX8_markParts_48 rfl rfl ?_
          refine z_iald dX8_markParts_49 hk.2.2.2.2.1 rfl (by omega) (show _ = nI b by rw [z_up_ne _ _ _ (tr_ne' (by decide) 4)]; exact hlb) ?_
          refine z_iconst (v := 1) dX8_markParts_50 (by decide) ?_
          refine z_zast dX8_markParts_51 rfl rfl (by omega) (by first | exact Or.inl rfl | exact Or.inr rfl) ?_
          refine z_iinc dX8_markParts_52 rfl (nI_dec _) (by decide) ?_
          show z_V _ _ _ _ _ _ _ _ _ [_, _, _] _ _
          refine z_goto (tgt := 7) dX8_markParts_55 (by decide) ?_
          refine z_Vx e1 (ih j (by omega) (mpT σ (tr t) j) (fun v hv h => by rw [mpT_ne _ _ _ (tr_ne' (by decide) 2)] at h; rw [mpT_ne _ _ _ (tr_ne' (by decide) 3), mpT_ne _ _ _ (tr_ne' (by decide) 4)]; exact hok v (by omega) h))
set_option maxRecDepth 100000 in
set_option maxHeartbeats 4000000 in
theorem sp_markParts {d : Nat} {σ : Nat → Nat → Int32} {τ : Nat → Nat → Int64} {t n : Nat} (ht : t < 4) (hn : σ (tr t + 1) 4 = nI n) (h36 : n ≤ 36) (hok : okP σ (tr t) n) : z_MV M_X8_markParts (d + 1) 0 0 [.ref 19, .ref (tr t + 1)] (124, z_r0, σ, τ) (none) (124, z_r0, mpS (tr t) n σ, τ) := by
  refine z_MV.of pn_X8_markParts (Nat.le_of_ble_eq_true rfl) (by simp [Value.category]) rfl ?_
  show z_V _ _ _ _ _ _ _ _ _ [_, _, _] _ _
  have hk := tr_k ht
  have hr := tr_r ht
  refine z_aload_n dX8_markParts_0 rfl rfl ?_
  refine z_getI dX8_markParts_1 fl_X8_133 rfl hk.2.1 hn ?_
  refine z_iconst (v := 1) dX8_markParts_4 (by decide) ?_
  refine z_isub dX8_markParts_5 rfl ?_
  refine z_istore_n dX8_markParts_6 rfl (by decide) ?_
  show z_V _ _ _ _ _ _ _ _ _ [_, _, _] _ _
  exact markParts_loop ht n h36 σ hok
def mcV (σ : Nat → Nat → Int32) (T v : Nat) : Int32 := if σ (T + 2) v ≠ 0 ∧ σ (T + 2) v ≠ 1 then b2i (σ 26 (tN (σ (T + 3) v)) ≠ 0 ∧ σ 26 (tN (σ (T + 4) v)) ≠ 0) else b2i (σ (T + 2) v = 0 ∨ σ (T + 12) v = nI v)
def mcS (σ : Nat → Nat → Int32) (T : Nat) : Nat → Nat → Nat → Int32
  | 0 => σ
  | v + 1 => z_up (mcS σ T v) 26 v (mcV (mcS σ T v) T v)
theorem mcS_ne (σ : Nat → Nat → Int32) (T i : Nat) {b : Nat} (h : b ≠ 26) : mcS σ T i b = σ b := by
  induction i with
  | zero => rfl
  | succ i ih => simp only [mcS]; rw [z_up_ne _ _ _ h, ih]
theorem mcV_mc {σ : Nat → Nat → Int32} {t : Nat} (v : Nat) : mcV (mcS σ (tr t) v) (tr t) v = if σ (tr t + 2) v ≠ 0 ∧ σ (tr t + 2) v ≠ 1 then b2i (mcS σ (tr t) v 26 (tN (σ (tr t + 3) v)) ≠ 0 ∧ mcS σ (tr t) v 26 (tN (σ (tr t + 4) v)) ≠ 0) else b2i (σ (tr t + 2) v = 0 ∨ σ (tr t + 12) v = nI v) := by
  unfold mcV
  rw [mcS_ne σ (tr t) v (tr_ne' (by decide) 2), mcS_ne σ (tr t) v (tr_ne' (by decide) 3), mcS_ne σ (tr t) v (tr_ne' (by decide) 4), mcS_ne σ (tr t) v (tr_ne' (by decide) 12)]
set_option maxRecDepth 100000 in
set_option maxHeartbeats 4000000 in
theorem markConstant_loop {d : Nat} {σ : Nat → Nat → Int32} {τ : Nat → Nat → Int64} {t n : Nat} (ht : t < 4) (hn : σ (tr t + 1) 4 = nI n) (h36 : n ≤ 36) (hok : okP σ (tr t) n) (h6 : ∀ v, v < n → σ (tr t + 2) v = 1 → v < 6) : ∀ (m v : Nat), v ≤ n → n - v < m → z_V M_X8_markConstant (d + 1) 0 0 0 0 none (124, z_r0, mcS σ (tr t) n, τ) 7 [some (.ref 19), some (.ref (tr t)), some (.ref (tr t + 1)), some (.int (nI v))] [] (124, z_r0, mcS σ (tr t) v, τ) := by
  have hk := tr_k ht
  have hr := tr_r ht
  intro m
  induction m with
  | zero => intro v _ h; omega
  | succ m ih =>
    intro v hv1 hv2
    refine z_iload_n dX8_markConstant_7 rfl rfl ?_
    refine z_aload_n dX8_markConstant_8 rfl rfl ?_
    refine z_getI dX8_markConstant_9 fl_X8_133 rfl hk.2.1 (show _ = nI n by rw [mcS_ne _ _ _ (tr_ne' (by decide) 1)]; exact hn) ?_
    refine z_icmp_ge (tgt := 98) dX8_markConstant_12 (by decide) (fun c12 => ?_) (fun c12 => ?_)
    · have e0 : n = v := by
        rcases Nat.lt_or_ge v n with q | q
        · exact absurd c12 (nI_ge q (by omega))
        · omega
      subst e0
      exact z_vret dX8_markConstant_98 rfl rfl rfl
    · have hlt : v < n := by
        rcases Nat.lt_or_ge v n with q | q
        · exact q
        · exact absurd (nI_le q (by omega)) c12
      refine z_aload_n dX8_markConstant_15 rfl rfl ?_
      refine z_iload_n dX8_markConstant_16 rfl rfl ?_
      refine z_cV1 dX8_markConstant_17 ml_X8_156 (sp_isOperation ht (by omega)) hk.2.1 ⟨by decide, rfl⟩ rfl rfl (Nat.le_of_ble_eq_true rfl) ?_
      rw [mcS_ne σ (tr t) v (tr_ne' (by decide) 2)]
      refine z_if_eq (tgt := 65) dX8_markConstant_20 (by decide) (fun c20 => ?_) (fun c20 => ?_)
      · have hop : ¬ (σ (tr t + 2) v ≠ 0 ∧ σ (tr t + 2) v ≠ 1) := fun q => by rw [b2i_t q] at c20; exact absurd c20 (by decide)
        refine z_aload_n dX8_markConstant_65 rfl rfl ?_
        refine z_getR dX8_markConstant_66 fl_X8_29 rfl rfl rfl ?_
        refine z_iload_n dX8_markConstant_69 rfl rfl ?_
        refine z_aload_n dX8_markConstant_70 rfl rfl ?_
        refine z_iload_n dX8_markConstant_71 rfl rfl ?_
        refine z_cV1 dX8_markConstant_72 ml_X8_123 (sp_isNumber ht (by omega)) hk.2.1 ⟨by decide, rfl⟩ rfl rfl (Nat.le_of_ble_eq_true rfl) ?_
        rw [mcS_ne σ (tr t) v (tr_ne' (by decide) 2)]
        refine z_if_ne (tgt := 86) dX8_markConstant_75 (by decide) (fun c75 => ?_) (fun c75 => ?_)
        · have hnum : σ (tr t + 2) v = 0 := by
            rcases Decidable.em (σ (tr t + 2) v = 0) with q | q
            · exact q
            · rw [b2i_f q] at c75; exact absurd rfl c75
          refine z_iconst (v := 1) dX8_markConstant_86 (by decide) ?_
          refine z_goto (tgt := 91) dX8_markConstant_87 (by decide) ?_
          refine z_zast dX8_markConstant_91 rfl rfl (by omega) (by first | exact Or.inl rfl | exact Or.inr rfl) ?_
          refine z_iinc dX8_markConstant_92 rfl (nI_i _) (by decide) ?_
          show z_V _ _ _ _ _ _ _ _ _ [_, _, _, _] _ _
          refine z_goto (tgt := 7) dX8_markConstant_95 (by decide) ?_
          have e1 : mcS σ (tr t) (v + 1) = z_up (mcS σ (tr t) v) 26 v (mcV (mcS σ (tr t) v) (tr t) v) := rfl
          have e2 := mcV_mc (σ := σ) (t := t) v
          refine z_Vx (σ' := mcS σ (tr t) (v + 1)) ?_ (ih (v + 1) (by omega) (by omega))
          first
            | (rw [e1, e2, if_pos hop, hla, hlb, tN_nI (by omega), tN_nI (by omega)]; simp [b2i, c39, c53]; done)
            | (rw [e1, e2, if_pos hop, hla, hlb, tN_nI (by omega), tN_nI (by omega)]; simp [b2i, c39]; done)
            | (rw [e1, e2, if_neg hop]; simp [b2i, hnum, hst]; done)
            | (rw [e1, e2, if_neg hop]; simp [b2i, hnum]; done)
        · have hnum : ¬ σ (tr t + 2) v = 0 := fun q => by rw [b2i_t q] at c75; exact absurd c75 (by decide)
          have hv6 : v < 6 := h6 v hlt (by
            rcases Decidable.em (σ (tr t + 2) v = 1) with q | q
            · exact q
            · exact absurd ⟨hnum, q⟩ hop)
          refine z_aload_n dX8_markConstant_78 rfl rfl ?_
          refine z_iload_n dX8_markConstant_79 rfl rfl ?_
          refine z_cV1 dX8_markConstant_80 ml_X8_162 (sp_stays ht hv6) hk.1 ⟨by decide, rfl⟩ rfl rfl (Nat.le_of_ble_eq_true rfl) ?_
          rw [mcS_ne σ (tr t) v (tr_ne' (by decide) 12)]
          refine z_if_eq (tgt := 90) dX8_markConstant_83 (by decide) (fun c83 => ?_) (fun c83 => ?_)
          · have hst : ¬ σ (tr t + 12) v = nI v := fun q => by rw [b2i_t q] at c83; exact absurd c83 (by decide)
            refine z_iconst (v := 0) dX8_markConstant_90 (by decide) ?_
            refine z_zast dX8_markConstant_91 rfl rfl (by omega) (by first | exact Or.inl rfl | exact Or.inr rfl) ?_
            refine z_iinc dX8_markConstant_92 rfl (nI_i _) (by decide) ?_
            show z_V _ _ _ _ _ _ _ _ _ [_, _, _, _] _ _
            refine z_goto (tgt := 7) dX8_markConstant_95 (by decide) ?_
            have e1 : mcS σ (tr t) (v + 1) = z_up (mcS σ (tr t) v) 26 v (mcV (mcS σ (tr t) v) (tr t) v) := rfl
            have e2 := mcV_mc (σ := σ) (t := t) v
            refine z_Vx (σ' := mcS σ (tr t) (v + 1)) ?_ (ih (v + 1) (by omega) (by omega))
            first
              | (rw [e1, e2, if_pos hop, hla, hlb, tN_nI (by omega), tN_nI (by omega)]; simp [b2i, c39, c53]; done)
              | (rw [e1, e2, if_pos hop, hla, hlb, tN_nI (by omega), tN_nI (by omega)]; simp [b2i, c39]; done)
              | (rw [e1, e2, if_neg hop]; simp [b2i, hnum, hst]; done)
              | (rw [e1, e2, if_neg hop]; simp [b2i, hnum]; done)
          · have hst : σ (tr t + 12) v = nI v := by
              rcases Decidable.em (σ (tr t + 12) v = nI v) with q | q
              · exact q
              · rw [b2i_f q] at c83; exact absurd rfl c83
            refine z_iconst (v := 1) dX8_markConstant_86 (by decide) ?_
            refine z_goto (tgt := 91) dX8_markConstant_87 (by decide) ?_
            refine z_zast dX8_markConstant_91 rfl rfl (by omega) (by first | exact Or.inl rfl | exact Or.inr rfl) ?_
            refine z_iinc dX8_markConstant_92 rfl (nI_i _) (by decide) ?_
            show z_V _ _ _ _ _ _ _ _ _ [_, _, _, _] _ _
            refine z_goto (tgt := 7) dX8_markConstant_95 (by decide) ?_
            have e1 : mcS σ (tr t) (v + 1) = z_up (mcS σ (tr t) v) 26 v (mcV (mcS σ (tr t) v) (tr t) v) := rfl
            have e2 := mcV_mc (σ := σ) (t := t) v
            refine z_Vx (σ' := mcS σ (tr t) (v + 1)) ?_ (ih (v + 1) (by omega) (by omega))
            first
              | (rw [e1, e2, if_pos hop, hla, hlb, tN_nI (by omega), tN_nI (by omega)]; simp [b2i, c39, c53]; done)
              | (rw [e1, e2, if_pos hop, hla, hlb, tN_nI (by omega), tN_nI (by omega)]; simp [b2i, c39]; done)
              | (rw [e1, e2, if_neg hop]; simp [b2i, hnum, hst]; done)
              | (rw [e1, e2, if_neg hop]; simp [b2i, hnum]; done)
      · have hop : σ (tr t + 2) v ≠ 0 ∧ σ (tr t + 2) v ≠ 1 := by
          rcases Decidable.em (σ (tr t + 2) v ≠ 0 ∧ σ (tr t + 2) v ≠ 1) with q | q
          · exact q
          · rw [b2i_f q] at c20; exact absurd rfl c20
        obtain ⟨⟨a, ha, hla⟩, b, hb, hlb⟩ := hok v hlt hop
        refine z_aload_n dX8_markConstant_23 rfl rfl ?_
        refine z_getR dX8_markConstant_24 fl_X8_29 rfl rfl rfl ?_
        refine z_iload_n dX8_markConstant_27 rfl rfl ?_
        refine z_aload_n dX8_markConstant_28 rfl rfl ?_
        refine z_getR dX8_markConstant_29 fl_X8_29 rfl rfl rfl ?_
        refine z_aload_n dX8_markConstant_32 rfl rfl ?_
        refine z_getR dX8_markConstant_33 fl_X8_127 rfl hk.2.1 hr.2.2.2.2.2.2.2.2.1 ?_
        refine z_iload_n dX8_markConstant_36 rfl rfl ?_
        refine z_iald dX8_markConstant_37 hk.2.2.2.1 rfl (by omega) (show _ = nI a by rw [mcS_ne _ _ _ (tr_ne' (by decide) 3)]; exact hla) ?_
        refine z_zald dX8_markConstant_38 rfl rfl (by omega) rfl ?_
        refine z_if_eq (tgt := 60) dX8_markConstant_39 (by decide) (fun c39 => ?_) (fun c39 => ?_)
        · refine z_iconst (v := 0) dX8_markConstant_60 (by decide) ?_
          refine z_zast dX8_markConstant_61 rfl rfl (by omega) (by first | exact Or.inl rfl | exact Or.inr rfl) ?_
          refine z_goto (tgt := 92) dX8_markConstant_62 (by decide) ?_
          refine z_iinc dX8_markConstant_92 rfl (nI_i _) (by decide) ?_
          show z_V _ _ _ _ _ _ _ _ _ [_, _, _, _] _ _
          refine z_goto (tgt := 7) dX8_markConstant_95 (by decide) ?_
          have e1 : mcS σ (tr t) (v + 1) = z_up (mcS σ (tr t) v) 26 v (mcV (mcS σ (tr t) v) (tr t) v) := rfl
          have e2 := mcV_mc (σ := σ) (t := t) v
          refine z_Vx (σ' := mcS σ (tr t) (v + 1)) ?_ (ih (v + 1) (by omega) (by omega))
          first
            | (rw [e1, e2, if_pos hop, hla, hlb, tN_nI (by omega), tN_nI (by omega)]; simp [b2i, c39, c53]; done)
            | (rw [e1, e2, if_pos hop, hla, hlb, tN_nI (by omega), tN_nI (by omega)]; simp [b2i, c39]; done)
            | (rw [e1, e2, if_neg hop]; simp [b2i, hnum, hst]; done)
            | (rw [e1, e2, if_neg hop]; simp [b2i, hnum]; done)
        · refine z_aload_n dX8_markConstant_42 rfl rfl ?_
          refine z_getR dX8_markConstant_43 fl_X8_29 rfl rfl rfl ?_
          refine z_aload_n dX8_markConstant_46 rfl rfl ?_
          refine z_getR dX8_markConstant_47 fl_X8_159 rfl hk.2.1 hr.2.2.2.2.2.2.2.2.2.1 ?_
          refine z_iload_n dX8_markConstant_50 rfl rfl ?_
          refine z_iald dX8_markConstant_51 hk.2.2.2.2.1 rfl (by omega) (show _ = nI b by rw [mcS_ne _ _ _ (tr_ne' (by decide) 4)]; exact hlb) ?_
          refine z_zald dX8_markConstant_52 rfl rfl (by omega) rfl ?_
          refine z_if_eq (tgt := 60) dX8_markConstant_53 (by decide) (fun c53 => ?_) (fun c53 => ?_)
          · refine z_iconst (v := 0) dX8_markConstant_60 (by decide) ?_
            refine z_zast dX8_markConstant_61 rfl rfl (by omega) (by first | exact Or.inl rfl | exact Or.inr rfl) ?_
            refine z_goto (tgt := 92) dX8_markConstant_62 (by decide) ?_
            refine z_iinc dX8_markConstant_92 rfl (nI_i _) (by decide) ?_
            show z_V _ _ _ _ _ _ _ _ _ [_, _, _, _] _ _
            refine z_goto (tgt := 7) dX8_markConstant_95 (by decide) ?_
            have e1 : mcS σ (tr t) (v + 1) = z_up (mcS σ (tr t) v) 26 v (mcV (mcS σ (tr t) v) (tr t) v) := rfl
            have e2 := mcV_mc (σ := σ) (t := t) v
            refine z_Vx (σ' := mcS σ (tr t) (v + 1)) ?_ (ih (v + 1) (by omega) (by omega))
            first
              | (rw [e1, e2, if_pos hop, hla, hlb, tN_nI (by omega), tN_nI (by omega)]; simp [b2i, c39, c53]; done)
              | (rw [e1, e2, if_pos hop, hla, hlb, tN_nI (by omega), tN_nI (by omega)]; simp [b2i, c39]; done)
              | (rw [e1, e2, if_neg hop]; simp [b2i, hnum, hst]; done)
              | (rw [e1, e2, if_neg hop]; simp [b2i, hnum]; done)
          · refine z_iconst (v := 1) dX8_markConstant_56 (by decide) ?_
            refine z_goto (tgt := 61) dX8_markConstant_57 (by decide) ?_
            refine z_zast dX8_markConstant_61 rfl rfl (by omega) (by first | exact Or.inl rfl | exact Or.inr rfl) ?_
            refine z_goto (tgt := 92) dX8_markConstant_62 (by decide) ?_
            refine z_iinc dX8_markConstant_92 rfl (nI_i _) (by decide) ?_
            show z_V _ _ _ _ _ _ _ _ _ [_, _, _, _] _ _
            refine z_goto (tgt := 7) dX8_markConstant_95 (by decide) ?_
            have e1 : mcS σ (tr t) (v + 1) = z_up (mcS σ (tr t) v) 26 v (mcV (mcS σ (tr t) v) (tr t) v) := rfl
            have e2 := mcV_mc (σ := σ) (t := t) v
            refine z_Vx (σ' := mcS σ (tr t) (v + 1)) ?_ (ih (v + 1) (by omega) (by omega))
            first
              | (rw [e1, e2, if_pos hop, hla, hlb, tN_nI (by omega), tN_nI (by omega)]; simp [b2i, c39, c53]; done)
              | (rw [e1, e2, if_pos hop, hla, hlb, tN_nI (by omega), tN_nI (by omega)]; simp [b2i, c39]; done)
              | (rw [e1, e2, if_neg hop]; simp [b2i, hnum, hst]; done)
              | (rw [e1, e2, if_neg hop]; simp [b2i, hnum]; done)
set_option maxRecDepth 100000 in
set_option maxHeartbeats 4000000 in
theorem sp_markConstant {d : Nat} {σ : Nat → Nat → Int32} {τ : Nat → Nat → Int64} {t n : Nat} (ht : t < 4) (hn : σ (tr t + 1) 4 = nI n) (h36 : n ≤ 36) (hok : okP σ (tr t) n) (h6 : ∀ v, v < n → σ (tr t + 2) v = 1 → v < 6) : z_MV M_X8_markConstant (d + 1) 0 0 [.ref 19, .ref (tr t)] (124, z_r0, σ, τ) (none) (124, z_r0, mcS σ (tr t) n, τ) := by
  refine z_MV.of pn_X8_markConstant (Nat.le_of_ble_eq_true rfl) (by simp [Value.category]) rfl ?_
  show z_V _ _ _ _ _ _ _ _ _ [_, _, _, _] _ _
  have hk := tr_k ht
  have hr := tr_r ht
  refine z_aload_n dX8_markConstant_0 rfl rfl ?_
  refine z_getR dX8_markConstant_1 fl_X8_66 rfl hk.1 hr.2.1 ?_
  refine z_astore_n dX8_markConstant_4 rfl (by decide) ?_
  show z_V _ _ _ _ _ _ _ _ _ [_, _, _, _] _ _
  refine z_iconst (v := 0) dX8_markConstant_5 (by decide) ?_
  refine z_istore_n dX8_markConstant_6 rfl (by decide) ?_
  show z_V _ _ _ _ _ _ _ _ _ [_, _, _, _] _ _
  exact markConstant_loop ht hn h36 hok h6 (n + 1) 0 (Nat.zero_le _) (by omega)
