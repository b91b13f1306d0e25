/-! PART 20: Frame, Recording, Tally, Given: small methods -/
theorem nI_i (a : Nat) : nI a + Int32.ofInt 1 = nI (a + 1) := by rw [show Int32.ofInt 1 = 1 by decide]; exact nI_1 a
set_option maxRecDepth 100000 in
set_option maxHeartbeats 4000000 in
theorem sp_push {d : Nat} {σ : Nat → Nat → Int32} {τ : Nat → Nat → Int64} {f e : Nat} {x : Int32} (hf0 : f = 6 ∨ f = 20) (hd : σ f 2 = nI e) (he : e < 6) : z_MV M_X1_push d 0 0 [.ref f, .int x] (124, z_r0, σ, τ) (none) (124, z_r0, z_up (z_up σ (f + 2) e x) f 2 (nI (e + 1)), τ) := by
  refine z_MV.of pn_X1_push (Nat.le_of_ble_eq_true rfl) (by simp [Value.category]) rfl ?_
  show z_V _ _ _ _ _ _ _ _ _ [_, _] _ _
  have hf := fr_k hf0
  refine z_aload_n dX1_push_0 rfl rfl ?_
  refine z_getI dX1_push_1 fl_X1_24 rfl hf.1 (show _ = nI e by simp [z_up, hd]) ?_
  refine z_bipush (v := nI 6) dX1_push_4 (by decide) ?_
  refine z_icmp_ge (tgt := 29) dX1_push_6 (by decide) (fun c_ => absurd c_ (nI_ge he (by decide))) (fun _ => ?_)
  refine z_aload_n dX1_push_9 rfl rfl ?_
  refine z_getR dX1_push_10 fl_X1_15 rfl hf.1 hf.2.2.2.2 ?_
  refine z_aload_n dX1_push_13 rfl rfl ?_
  refine z_getI dX1_push_14 fl_X1_24 rfl hf.1 (show _ = nI e by simp [z_up, hd]) ?_
  refine z_iload_n dX1_push_17 rfl rfl ?_
  refine z_iast dX1_push_18 hf.2.2.1 rfl (by omega) ?_
  refine z_aload_n dX1_push_19 rfl rfl ?_
  refine z_dup dX1_push_20 rfl ?_
  refine z_getI dX1_push_21 fl_X1_24 rfl hf.1 (show _ = nI e by simp [z_up, hd]) ?_
  refine z_iconst (v := 1) dX1_push_24 (by decide) ?_
  refine z_iadd dX1_push_25 (nI_1 _) ?_
  refine z_putI dX1_push_26 fl_X1_24 rfl rfl (Or.inl rfl) hf.1 ?_
  exact z_vret dX1_push_29 rfl rfl rfl
set_option maxRecDepth 100000 in
set_option maxHeartbeats 4000000 in
theorem sp_pop {d : Nat} {σ : Nat → Nat → Int32} {τ : Nat → Nat → Int64} {f e : Nat} (hf0 : f = 6 ∨ f = 20) (hd : σ f 2 = nI (e + 1)) (he : e < 6) : z_MV M_X1_pop d 0 0 [.ref f] (124, z_r0, σ, τ) (some (.int (σ (f + 2) e))) (124, z_r0, z_up σ f 2 (nI e), τ) := by
  refine z_MV.of pn_X1_pop (Nat.le_of_ble_eq_true rfl) (by simp [Value.category]) rfl ?_
  show z_V _ _ _ _ _ _ _ _ _ [_] _ _
  have hf := fr_k hf0
  refine z_aload_n dX1_pop_0 rfl rfl ?_
  refine z_getI dX1_pop_1 fl_X1_24 rfl hf.1 (show _ = nI (e + 1) by simp [z_up, hd]) ?_
  refine z_if_ne (tgt := 9) dX1_pop_4 (by decide) (fun _ => ?_) (fun c_ => absurd c_ (nI_ne0 (Nat.succ_pos e) (by omega)))
  refine z_aload_n dX1_pop_9 rfl rfl ?_
  refine z_dup dX1_pop_10 rfl ?_
  refine z_getI dX1_pop_11 fl_X1_24 rfl hf.1 (show _ = nI (e + 1) by simp [z_up, hd]) ?_
  refine z_iconst (v := 1) dX1_pop_14 (by decide) ?_
  refine z_isub dX1_pop_15 (nI_pred e) ?_
  refine z_putI dX1_pop_16 fl_X1_24 rfl rfl (Or.inl rfl) hf.1 ?_
  refine z_aload_n dX1_pop_19 rfl rfl ?_
  refine z_getR dX1_pop_20 fl_X1_15 rfl hf.1 hf.2.2.2.2 ?_
  refine z_aload_n dX1_pop_23 rfl rfl ?_
  refine z_getI dX1_pop_24 fl_X1_24 rfl hf.1 (show _ = nI e by simp [z_up]) ?_
  refine z_iald dX1_pop_27 hf.2.2.1 rfl (by omega) (show _ = σ (f + 2) e by simp [z_up]) ?_
  exact z_iret dX1_pop_28 rfl rfl rfl
set_option maxRecDepth 100000 in
set_option maxHeartbeats 4000000 in
theorem sp_treset {d : Nat} {σ : Nat → Nat → Int32} {τ : Nat → Nat → Int64} : z_MV M_X6_reset d 0 0 [.ref 11] (124, z_r0, σ, τ) (none) (124, z_r0, z_up (z_up (z_up (z_up σ 11 0 0) 11 1 0) 11 2 0) 11 3 0, τ) := by
  refine z_MV.of pn_X6_reset (Nat.le_of_ble_eq_true rfl) (by simp [Value.category]) rfl ?_
  show z_V _ _ _ _ _ _ _ _ _ [_] _ _
  refine z_aload_n dX6_reset_0 rfl rfl ?_
  refine z_iconst (v := 0) dX6_reset_1 (by decide) ?_
  refine z_putI dX6_reset_2 fl_X6_7 rfl rfl (Or.inl rfl) rfl ?_
  refine z_aload_n dX6_reset_5 rfl rfl ?_
  refine z_iconst (v := 0) dX6_reset_6 (by decide) ?_
  refine z_putI dX6_reset_7 fl_X6_13 rfl rfl (Or.inl rfl) rfl ?_
  refine z_aload_n dX6_reset_10 rfl rfl ?_
  refine z_iconst (v := 0) dX6_reset_11 (by decide) ?_
  refine z_putI dX6_reset_12 fl_X6_16 rfl rfl (Or.inl rfl) rfl ?_
  refine z_aload_n dX6_reset_15 rfl rfl ?_
  refine z_iconst (v := 0) dX6_reset_16 (by decide) ?_
  refine z_putI dX6_reset_17 fl_X6_19 rfl rfl (Or.inl rfl) rfl ?_
  exact z_vret dX6_reset_20 rfl rfl rfl
set_option maxRecDepth 100000 in
set_option maxHeartbeats 4000000 in
theorem sp_greset {d : Nat} {σ : Nat → Nat → Int32} {τ : Nat → Nat → Int64} : z_MV M_X2_reset d 0 0 [.ref 9] (124, z_r0, σ, τ) (none) (124, z_r0, z_up (z_up σ 9 1 0) 9 2 0, τ) := by
  refine z_MV.of pn_X2_reset (Nat.le_of_ble_eq_true rfl) (by simp [Value.category]) rfl ?_
  show z_V _ _ _ _ _ _ _ _ _ [_] _ _
  refine z_aload_n dX2_reset_0 rfl rfl ?_
  refine z_iconst (v := 0) dX2_reset_1 (by decide) ?_
  refine z_putI dX2_reset_2 fl_X2_15 rfl rfl (Or.inl rfl) rfl ?_
  refine z_aload_n dX2_reset_5 rfl rfl ?_
  refine z_iconst (v := 0) dX2_reset_6 (by decide) ?_
  refine z_putI dX2_reset_7 fl_X2_19 rfl rfl (Or.inl rfl) rfl ?_
  exact z_vret dX2_reset_10 rfl rfl rfl
set_option maxRecDepth 100000 in
set_option maxHeartbeats 4000000 in
theorem sp_stop {d : Nat} {σ : Nat → Nat → Int32} {τ : Nat → Nat → Int64} : z_MV M_X5_stop d 0 0 [.ref 16] (124, z_r0, σ, τ) (none) (124, z_r0, z_up σ 16 2 (-1), τ) := by
  refine z_MV.of pn_X5_stop (Nat.le_of_ble_eq_true rfl) (by simp [Value.category]) rfl ?_
  show z_V _ _ _ _ _ _ _ _ _ [_] _ _
  refine z_aload_n dX5_stop_0 rfl rfl ?_
  refine z_iconst (v := (-1)) dX5_stop_1 (by decide) ?_
  refine z_putI dX5_stop_2 fl_X5_19 rfl rfl (Or.inl rfl) rfl ?_
  exact z_vret dX5_stop_5 rfl rfl rfl
set_option maxRecDepth 100000 in
set_option maxHeartbeats 4000000 in
theorem sp_startAt {d : Nat} {σ : Nat → Nat → Int32} {τ : Nat → Nat → Int64} {x : Int32} : z_MV M_X5_startAt d 0 0 [.ref 16, .int x] (124, z_r0, σ, τ) (none) (124, z_r0, z_up (z_up σ 16 2 x) 16 3 0, τ) := by
  refine z_MV.of pn_X5_startAt (Nat.le_of_ble_eq_true rfl) (by simp [Value.category]) rfl ?_
  show z_V _ _ _ _ _ _ _ _ _ [_, _] _ _
  refine z_aload_n dX5_startAt_0 rfl rfl ?_
  refine z_iload_n dX5_startAt_1 rfl rfl ?_
  refine z_putI dX5_startAt_2 fl_X5_19 rfl rfl (Or.inl rfl) rfl ?_
  refine z_aload_n dX5_startAt_5 rfl rfl ?_
  refine z_iconst (v := 0) dX5_startAt_6 (by decide) ?_
  refine z_putI dX5_startAt_7 fl_X5_27 rfl rfl (Or.inl rfl) rfl ?_
  exact z_vret dX5_startAt_10 rfl rfl rfl
def b2i (p : Prop) [Decidable p] : Int32 := if p then 1 else 0
set_option maxRecDepth 100000 in
set_option maxHeartbeats 4000000 in
theorem sp_isOn {d : Nat} {σ : Nat → Nat → Int32} {τ : Nat → Nat → Int64} : z_MV M_X5_isOn d 0 0 [.ref 16] (124, z_r0, σ, τ) (some (.int (b2i (σ 16 2 ≠ -1)))) (124, z_r0, σ, τ) := by
  refine z_MV.of pn_X5_isOn (Nat.le_of_ble_eq_true rfl) (by simp [Value.category]) rfl ?_
  show z_V _ _ _ _ _ _ _ _ _ [_] _ _
  refine z_aload_n dX5_isOn_0 rfl rfl ?_
  refine z_getI dX5_isOn_1 fl_X5_19 rfl rfl rfl ?_
  refine z_iconst (v := (-1)) dX5_isOn_4 (by decide) ?_
  refine z_icmp_eq (tgt := 12) dX5_isOn_5 (by decide) (fun c5 => ?_) (fun c5 => ?_)
  · refine z_iconst (v := 0) dX5_isOn_12 (by decide) ?_
    exact z_zret dX5_isOn_13 rfl (by first | exact Or.inl rfl | exact Or.inr rfl) (by simp_all [b2i]) rfl
  · refine z_iconst (v := 1) dX5_isOn_8 (by decide) ?_
    refine z_goto (tgt := 13) dX5_isOn_9 (by decide) ?_
    exact z_zret dX5_isOn_13 rfl (by first | exact Or.inl rfl | exact Or.inr rfl) (by simp_all [b2i]) rfl
set_option maxRecDepth 100000 in
set_option maxHeartbeats 4000000 in
theorem sp_note {d : Nat} {σ : Nat → Nat → Int32} {τ : Nat → Nat → Int64} {e : Nat} {x y : Int32} (hd : σ 16 3 = nI e) (he : e < 30) (hw : y = 0 ∨ y = 1) : z_MV M_X5_note d 0 0 [.ref 16, .int x, .int y] (124, z_r0, σ, τ) (none) (124, z_r0, z_up (z_up (z_up σ 17 e x) 18 e y) 16 3 (nI (e + 1)), τ) := by
  refine z_MV.of pn_X5_note (Nat.le_of_ble_eq_true rfl) (by simp [Value.category]) rfl ?_
  show z_V _ _ _ _ _ _ _ _ _ [_, _, _] _ _
  refine z_aload_n dX5_note_0 rfl rfl ?_
  refine z_getR dX5_note_1 fl_X5_9 rfl rfl rfl ?_
  refine z_aload_n dX5_note_4 rfl rfl ?_
  refine z_getI dX5_note_5 fl_X5_27 rfl rfl (show _ = nI e by simp [z_up, hd]) ?_
  refine z_iload_n dX5_note_8 rfl rfl ?_
  refine z_iast dX5_note_9 rfl rfl (by omega) ?_
  refine z_aload_n dX5_note_10 rfl rfl ?_
  refine z_getR dX5_note_11 fl_X5_15 rfl rfl rfl ?_
  refine z_aload_n dX5_note_14 rfl rfl ?_
  refine z_getI dX5_note_15 fl_X5_27 rfl rfl (show _ = nI e by simp [z_up, hd]) ?_
  refine z_iload_n dX5_note_18 rfl rfl ?_
  refine z_zast dX5_note_19 rfl rfl (by omega) hw ?_
  refine z_aload_n dX5_note_20 rfl rfl ?_
  refine z_dup dX5_note_21 rfl ?_
  refine z_getI dX5_note_22 fl_X5_27 rfl rfl (show _ = nI e by simp [z_up, hd]) ?_
  refine z_iconst (v := 1) dX5_note_25 (by decide) ?_
  refine z_iadd dX5_note_26 (nI_1 _) ?_
  refine z_putI dX5_note_27 fl_X5_27 rfl rfl (Or.inl rfl) rfl ?_
  exact z_vret dX5_note_30 rfl rfl rfl
set_option maxRecDepth 100000 in
set_option maxHeartbeats 4000000 in
theorem sp_isFull {d : Nat} {σ : Nat → Nat → Int32} {τ : Nat → Nat → Int64} : z_MV M_X5_isFull (d + 1) 0 0 [.ref 16] (124, z_r0, σ, τ) (some (.int (b2i (σ 16 2 ≠ -1 ∧ σ 16 3 = nI 30)))) (124, z_r0, σ, τ) := by
  refine z_MV.of pn_X5_isFull (Nat.le_of_ble_eq_true rfl) (by simp [Value.category]) rfl ?_
  show z_V _ _ _ _ _ _ _ _ _ [_] _ _
  refine z_aload_n dX5_isFull_0 rfl rfl ?_
  refine z_cV1 dX5_isFull_1 ml_X5_23 (sp_isOn) rfl ⟨by decide, rfl⟩ rfl rfl (Nat.le_of_ble_eq_true rfl) ?_
  refine z_if_eq (tgt := 20) dX5_isFull_4 (by decide) (fun c4 => ?_) (fun c4 => ?_)
  · refine z_iconst (v := 0) dX5_isFull_20 (by decide) ?_
    exact z_zret dX5_isFull_21 rfl (by first | exact Or.inl rfl | exact Or.inr rfl) (by simp_all [b2i]) rfl
  · refine z_aload_n dX5_isFull_7 rfl rfl ?_
    refine z_getI dX5_isFull_8 fl_X5_27 rfl rfl rfl ?_
    refine z_bipush (v := nI 30) dX5_isFull_11 (by decide) ?_
    refine z_icmp_ne (tgt := 20) dX5_isFull_13 (by decide) (fun c13 => ?_) (fun c13 => ?_)
    · refine z_iconst (v := 0) dX5_isFull_20 (by decide) ?_
      exact z_zret dX5_isFull_21 rfl (by first | exact Or.inl rfl | exact Or.inr rfl) (by simp_all [b2i]) rfl
    · refine z_iconst (v := 1) dX5_isFull_16 (by decide) ?_
      refine z_goto (tgt := 21) dX5_isFull_17 (by decide) ?_
      exact z_zret dX5_isFull_21 rfl (by first | exact Or.inl rfl | exact Or.inr rfl) (by simp_all [b2i]) rfl
set_option maxRecDepth 100000 in
set_option maxHeartbeats 4000000 in
theorem sp_closesAt {d : Nat} {σ : Nat → Nat → Int32} {τ : Nat → Nat → Int64} {x : Int32} : z_MV M_X5_closesAt (d + 1) 0 0 [.ref 16, .int x] (124, z_r0, σ, τ) (some (.int (b2i (σ 16 2 ≠ -1 ∧ ¬ σ 16 3 ≤ 0 ∧ x = σ 16 2)))) (124, z_r0, σ, τ) := by
  refine z_MV.of pn_X5_closesAt (Nat.le_of_ble_eq_true rfl) (by simp [Value.category]) rfl ?_
  show z_V _ _ _ _ _ _ _ _ _ [_, _] _ _
  refine z_aload_n dX5_closesAt_0 rfl rfl ?_
  refine z_cV1 dX5_closesAt_1 ml_X5_23 (sp_isOn) rfl ⟨by decide, rfl⟩ rfl rfl (Nat.le_of_ble_eq_true rfl) ?_
  refine z_if_eq (tgt := 26) dX5_closesAt_4 (by decide) (fun c4 => ?_) (fun c4 => ?_)
  · refine z_iconst (v := 0) dX5_closesAt_26 (by decide) ?_
    exact z_zret dX5_closesAt_27 rfl (by first | exact Or.inl rfl | exact Or.inr rfl) (by simp_all [b2i]) rfl
  · refine z_aload_n dX5_closesAt_7 rfl rfl ?_
    refine z_getI dX5_closesAt_8 fl_X5_27 rfl rfl rfl ?_
    refine z_if_le (tgt := 26) dX5_closesAt_11 (by decide) (fun c11 => ?_) (fun c11 => ?_)
    · refine z_iconst (v := 0) dX5_closesAt_26 (by decide) ?_
      exact z_zret dX5_closesAt_27 rfl (by first | exact Or.inl rfl | exact Or.inr rfl) (by simp_all [b2i]) rfl
    · refine z_iload_n dX5_closesAt_14 rfl rfl ?_
      refine z_aload_n dX5_closesAt_15 rfl rfl ?_
      refine z_getI dX5_closesAt_16 fl_X5_19 rfl rfl rfl ?_
      refine z_icmp_ne (tgt := 26) dX5_closesAt_19 (by decide) (fun c19 => ?_) (fun c19 => ?_)
      · refine z_iconst (v := 0) dX5_closesAt_26 (by decide) ?_
        exact z_zret dX5_closesAt_27 rfl (by first | exact Or.inl rfl | exact Or.inr rfl) (by simp_all [b2i]) rfl
      · refine z_iconst (v := 1) dX5_closesAt_22 (by decide) ?_
        refine z_goto (tgt := 27) dX5_closesAt_23 (by decide) ?_
        exact z_zret dX5_closesAt_27 rfl (by first | exact Or.inl rfl | exact Or.inr rfl) (by simp_all [b2i]) rfl
def fillR (σ : Nat → Nat → Int32) (a : Nat) (x : Int32) (i : Nat) : Nat → Nat → Int32 := z_row σ a (fun j => if j < i then x else σ a j)
theorem fillR_0 (σ : Nat → Nat → Int32) (a : Nat) (x : Int32) : fillR σ a x 0 = σ := by
  funext b j
  by_cases hb : b = a <;> simp [fillR, z_row, hb]
theorem fillR_s (σ : Nat → Nat → Int32) (a : Nat) (x : Int32) (i : Nat) : z_up (fillR σ a x i) a i x = fillR σ a x (i + 1) := by
  funext b j
  by_cases hb : b = a
  · subst hb
    by_cases hj : j = i
    · subst hj; simp [fillR, z_row, z_up]
    · simp only [fillR, z_row, z_up, hj, and_false, ↓reduceIte]
      have : j < i + 1 ↔ j < i := by omega
      simp [this]
  · simp [fillR, z_row, z_up, hb]
set_option maxRecDepth 100000 in
set_option maxHeartbeats 4000000 in
theorem fill_loop {d : Nat} {σ : Nat → Nat → Int32} {τ : Nat → Nat → Int64} {a len : Nat} {x : Int32} (hk : z_k a = (1, len)) : ∀ (m i : Nat), i ≤ len → len - i < m → z_V M_J7_fill_53178 d 0 0 0 0 none (124, z_r0, fillR σ a x len, τ) 5 [some (.ref a), some (.int x), some (.int (nI i)), some (.int (nI len))] [] (124, z_r0, fillR σ a x i, τ) := by
  have hl := z_len hk
  intro m
  induction m with
  | zero => intro i _ h; omega
  | succ m ih =>
    intro i hi hm
    refine z_iload_n dJ7_fill_53178_5 rfl rfl ?_
    refine z_iload_n dJ7_fill_53178_6 rfl rfl ?_
    refine z_icmp_ge (tgt := 20) dJ7_fill_53178_7 (by decide) (fun c7 => ?_) (fun c7 => ?_)
    · have e0 : i = len := by
        rcases Nat.lt_or_ge i len with q | q
        · exact absurd c7 (nI_ge q hl)
        · omega
      subst e0
      exact z_vret dJ7_fill_53178_20 rfl rfl rfl
    · have hlt : i < len := by
        rcases Nat.lt_or_ge i len with q | q
        · exact q
        · exact absurd (nI_le q (by omega)) c7
      refine z_aload_n dJ7_fill_53178_10 rfl rfl ?_
      refine z_iload_n dJ7_fill_53178_11 rfl rfl ?_
      refine z_iload_n dJ7_fill_53178_12 rfl rfl ?_
      refine z_iast dJ7_fill_53178_13 hk rfl (by omega) ?_
      refine z_iinc dJ7_fill_53178_14 rfl (nI_i _) (by decide) ?_
      show z_V _ _ _ _ _ _ _ _ _ [_, _, _, _] _ _
      refine z_goto (tgt := 5) dJ7_fill_53178_17 (by decide) ?_
      rw [fillR_s]
      exact ih (i + 1) (by omega) (by omega)
set_option maxRecDepth 100000 in
set_option maxHeartbeats 4000000 in
theorem sp_fill {d : Nat} {σ : Nat → Nat → Int32} {τ : Nat → Nat → Int64} {a len : Nat} {x : Int32} (hk : z_k a = (1, len)) : z_MV M_J7_fill_53178 d 0 0 [.ref a, .int x] (124, z_r0, σ, τ) (none) (124, z_r0, fillR σ a x len, τ) := by
  refine z_MV.of pn_J7_fill_53178 (Nat.le_of_ble_eq_true rfl) (by simp [Value.category]) rfl ?_
  show z_V _ _ _ _ _ _ _ _ _ [_, _, _, _] _ _
  refine z_iconst (v := 0) dJ7_fill_53178_0 (by decide) ?_
  refine z_istore_n dJ7_fill_53178_1 rfl (by decide) ?_
  show z_V _ _ _ _ _ _ _ _ _ [_, _, _, _] _ _
  refine z_aload_n dJ7_fill_53178_2 rfl rfl ?_
  refine z_alen dJ7_fill_53178_3 hk (Or.inl rfl) rfl ?_
  refine z_istore_n dJ7_fill_53178_4 rfl (by decide) ?_
  show z_V _ _ _ _ _ _ _ _ _ [_, _, _, _] _ _
  have h0 := fill_loop (d := d) (σ := σ) (τ := τ) (x := x) hk (len + 1) 0 (Nat.zero_le _) (by omega)
  rw [fillR_0] at h0
  exact h0
set_option maxRecDepth 100000 in
set_option maxHeartbeats 4000000 in
theorem sp_freset {d : Nat} {σ : Nat → Nat → Int32} {τ : Nat → Nat → Int64} {f : Nat} (hf0 : f = 6 ∨ f = 20) : z_MV M_X1_reset (d + 1) 0 0 [.ref f] (124, z_r0, σ, τ) (none) (124, z_r0, z_up (z_up (fillR σ (f + 1) 0 6) f 2 0) f 3 0, τ) := by
  refine z_MV.of pn_X1_reset (Nat.le_of_ble_eq_true rfl) (by simp [Value.category]) rfl ?_
  show z_V _ _ _ _ _ _ _ _ _ [_] _ _
  have hf := fr_k hf0
  refine z_aload_n dX1_reset_0 rfl rfl ?_
  refine z_getR dX1_reset_1 fl_X1_9 rfl hf.1 hf.2.2.2.1 ?_
  refine z_iconst (v := 0) dX1_reset_4 (by decide) ?_
  refine z_cS0 dX1_reset_5 ml_X1_18 (sp_fill hf.2.1) rfl rfl (Nat.le_of_ble_eq_true rfl) ?_
  refine z_aload_n dX1_reset_8 rfl rfl ?_
  refine z_iconst (v := 0) dX1_reset_9 (by decide) ?_
  refine z_putI dX1_reset_10 fl_X1_24 rfl rfl (Or.inl rfl) hf.1 ?_
  refine z_aload_n dX1_reset_13 rfl rfl ?_
  refine z_iconst (v := 0) dX1_reset_14 (by decide) ?_
  refine z_putI dX1_reset_15 fl_X1_28 rfl rfl (Or.inl rfl) hf.1 ?_
  exact z_vret dX1_reset_18 rfl rfl rfl
set_option maxRecDepth 100000 in
set_option maxHeartbeats 4000000 in
theorem sp_preset {d : Nat} {σ : Nat → Nat → Int32} {τ : Nat → Nat → Int64} : z_MV M_X4_reset (d + 1) 0 0 [.ref 12] (124, z_r0, σ, τ) (none) (124, z_r0, fillR (fillR (fillR σ 13 0 40) 14 0 40) 15 (-1) 40, τ) := by
  refine z_MV.of pn_X4_reset (Nat.le_of_ble_eq_true rfl) (by simp [Value.category]) rfl ?_
  show z_V _ _ _ _ _ _ _ _ _ [_] _ _
  refine z_aload_n dX4_reset_0 rfl rfl ?_
  refine z_getR dX4_reset_1 fl_X4_9 rfl rfl rfl ?_
  refine z_iconst (v := 0) dX4_reset_4 (by decide) ?_
  refine z_cS0 dX4_reset_5 ml_X4_21 (sp_fill (by rfl)) rfl rfl (Nat.le_of_ble_eq_true rfl) ?_
  refine z_aload_n dX4_reset_8 rfl rfl ?_
  refine z_getR dX4_reset_9 fl_X4_15 rfl rfl rfl ?_
  refine z_iconst (v := 0) dX4_reset_12 (by decide) ?_
  refine z_cS0 dX4_reset_13 ml_X4_21 (sp_fill (by rfl)) rfl rfl (Nat.le_of_ble_eq_true rfl) ?_
  refine z_aload_n dX4_reset_16 rfl rfl ?_
  refine z_getR dX4_reset_17 fl_X4_18 rfl rfl rfl ?_
  refine z_iconst (v := (-1)) dX4_reset_20 (by decide) ?_
  refine z_cS0 dX4_reset_21 ml_X4_21 (sp_fill (by rfl)) rfl rfl (Nat.le_of_ble_eq_true rfl) ?_
  exact z_vret dX4_reset_24 rfl rfl rfl
