/-! PART 32: Code: isInstruction, reach, leadsOnWell, isSound -/
theorem nI_ne {a b : Nat} (ha : a < 2 ^ 31) (hb : b < 2 ^ 31) (h : a ≠ b) : ¬ nI a = nI b := fun q => h ((nI_eq ha hb).mp q)
def cnt (f : Nat → Int32) : Nat → Nat
  | 0 => 0
  | i + 1 => cnt f i + (if f i = -1 then 0 else 1)
theorem cnt_le (f : Nat → Int32) (n : Nat) : cnt f n ≤ n := by
  induction n with
  | zero => simp [cnt]
  | succ n ih => simp only [cnt]; split <;> omega
theorem cnt_lt {f : Nat → Int32} {n a : Nat} (ha : a < n) (h : f a = -1) : cnt f n < n := by
  induction n with
  | zero => omega
  | succ n ih =>
    simp only [cnt]
    have := cnt_le f n
    by_cases han : a = n
    · subst han; rw [if_pos h]; omega
    · have := ih (by omega)
      split <;> omega
theorem cnt_same {f g : Nat → Int32} {n : Nat} (h : ∀ i, i < n → f i = g i) : cnt f n = cnt g n := by
  induction n with
  | zero => rfl
  | succ n ih => simp only [cnt]; rw [ih (fun i hi => h i (by omega)), h n (by omega)]
theorem cnt_up {f : Nat → Int32} {n a : Nat} {x : Int32} (ha : a < n) (h : f a = -1) (hx : ¬ x = -1) : cnt (va_up f a x) n = cnt f n + 1 := by
  induction n with
  | zero => omega
  | succ n ih =>
    simp only [cnt]
    by_cases han : a = n
    · subst han
      rw [cnt_same (g := f) (fun i hi => by simp only [va_up]; rw [if_neg (by omega)])]
      simp [va_up, hx, h]
    · rw [ih (by omega)]
      have : va_up f a x n = f n := by simp only [va_up]; rw [if_neg (by omega)]
      rw [this]
      omega
def rch (σ : Nat → Nat → Int32) (a : Nat) (q : Int32) : Int32 × (Nat → Nat → Int32) :=
  if tN (σ 1 2) ≤ a then (0, σ) else if σ 4 a = -1 then (1, z_up (z_up (z_up σ 4 a q) 5 (tN (σ 1 5)) (nI a)) 1 5 (nI (tN (σ 1 5) + 1))) else (b2i (σ 4 a = q), σ)
/-- the code has n places, as many are marked as are told -/
def cI (σ : Nat → Nat → Int32) (n : Nat) : Prop := n ≤ 40 ∧ σ 1 2 = nI n ∧ σ 1 5 = nI (cnt (σ 4) n)
theorem cI_rch {σ : Nat → Nat → Int32} {n a q : Nat} (hq : q < 100) (h : cI σ n) : cI (rch σ a (nI q)).2 n := by
  obtain ⟨h1, h2, h3⟩ := h
  have hle := cnt_le (σ 4) n
  unfold rch
  rw [h2, h3, tN_nI (by omega), tN_nI (by omega)]
  split
  · exact ⟨h1, h2, h3⟩
  · split
    next hna hm =>
      refine ⟨h1, by simp [z_up, h2], ?_⟩
      have e4 : z_up (z_up (z_up σ 4 a (nI q)) 5 (cnt (σ 4) n) (nI a)) 1 5 (nI (cnt (σ 4) n + 1)) 4 = va_up (σ 4) a (nI q) := by
        rw [z_up_ne _ _ _ (by decide), z_up_ne _ _ _ (by decide), z_up_row]
      show z_up (z_up (z_up σ 4 a (nI q)) 5 (cnt (σ 4) n) (nI a)) 1 5 (nI (cnt (σ 4) n + 1)) 1 5 = nI (cnt (z_up (z_up (z_up σ 4 a (nI q)) 5 (cnt (σ 4) n) (nI a)) 1 5 (nI (cnt (σ 4) n + 1)) 4) n)
      rw [e4, cnt_up (by omega) hm (nI_nm1 (by omega)), z_up_s]
    next => exact ⟨h1, h2, h3⟩
theorem rch_lo {σ : Nat → Nat → Int32} {a b : Nat} {q : Int32} (h : b ≠ 4 ∧ b ≠ 5 ∧ b ≠ 1) : (rch σ a q).2 b = σ b := by
  unfold rch
  split
  · rfl
  · split
    · show z_up _ _ _ _ b = _
      rw [z_up_ne _ _ _ h.2.2, z_up_ne _ _ _ h.2.1, z_up_ne _ _ _ h.1]
    · rfl
theorem rch_01 {σ : Nat → Nat → Int32} {a : Nat} {q : Int32} : (rch σ a q).1 = 0 ∨ (rch σ a q).1 = 1 := by
  unfold rch
  split
  · exact Or.inl rfl
  · split
    · exact Or.inr rfl
    · exact b2i_01 _
set_option maxRecDepth 100000 in
set_option maxHeartbeats 4000000 in
theorem sp_reach {d : Nat} {σ : Nat → Nat → Int32} {τ : Nat → Nat → Int64} {n a : Nat} {q : Int32} (h : cI σ n) (ha : a ≤ 40) : z_MV M_X0_reach d 0 0 [.ref 1, .int (nI a), .int q] (124, z_r0, σ, τ) (some (.int (rch σ a q).1)) (124, z_r0, (rch σ a q).2, τ) := by
  refine z_MV.of pn_X0_reach (Nat.le_of_ble_eq_true rfl) (by simp [Value.category]) rfl ?_
  show z_V _ _ _ _ _ _ _ _ _ [_, _, _] _ _
  have h40 := h.1
  refine z_iload_n dX0_reach_0 rfl rfl ?_
  refine z_aload_n dX0_reach_1 rfl rfl ?_
  refine z_getI dX0_reach_2 fl_X0_24 rfl rfl h.2.1 ?_
  refine z_icmp_lt (tgt := 10) dX0_reach_5 (by decide) (fun c5 => ?_) (fun c5 => ?_)
  · have han : a < n := (nI_ltI (by omega) (by omega)).mp c5
    refine z_aload_n dX0_reach_10 rfl rfl ?_
    refine z_getR dX0_reach_11 fl_X0_18 rfl rfl rfl ?_
    refine z_iload_n dX0_reach_14 rfl rfl ?_
    refine z_iald dX0_reach_15 rfl rfl (by omega) rfl ?_
    refine z_iconst (v := (-1)) dX0_reach_16 (by decide) ?_
    refine z_icmp_ne (tgt := 47) dX0_reach_17 (by decide) (fun c17 => ?_) (fun c17 => ?_)
    · refine z_aload_n dX0_reach_47 rfl rfl ?_
      refine z_getR dX0_reach_48 fl_X0_18 rfl rfl rfl ?_
      refine z_iload_n dX0_reach_51 rfl rfl ?_
      refine z_iald dX0_reach_52 rfl rfl (by omega) rfl ?_
      refine z_iload_n dX0_reach_53 rfl rfl ?_
      refine z_icmp_ne (tgt := 61) dX0_reach_54 (by decide) (fun c54 => ?_) (fun c54 => ?_)
      · refine z_iconst (v := 0) dX0_reach_61 (by decide) ?_
        exact z_zret dX0_reach_62 rfl (by first | exact Or.inl rfl | exact Or.inr rfl) (by simp [rch, h.2.1, tN_nI (show n < 2 ^ 31 by omega), Nat.not_le.mpr han, c17, b2i, c54]) (by simp [rch, h.2.1, tN_nI (show n < 2 ^ 31 by omega), Nat.not_le.mpr han, c17])
      · have hqn : ¬ q = -1 := c54 ▸ c17
        refine z_iconst (v := 1) dX0_reach_57 (by decide) ?_
        refine z_goto (tgt := 62) dX0_reach_58 (by decide) ?_
        exact z_zret dX0_reach_62 rfl (by first | exact Or.inl rfl | exact Or.inr rfl) (by simp [rch, h.2.1, tN_nI (show n < 2 ^ 31 by omega), Nat.not_le.mpr han, c17, b2i, c54, hqn]) (by simp [rch, h.2.1, tN_nI (show n < 2 ^ 31 by omega), Nat.not_le.mpr han, c17])
    · have hlt := cnt_lt han c17
      refine z_aload_n dX0_reach_20 rfl rfl ?_
      refine z_getR dX0_reach_21 fl_X0_18 rfl rfl rfl ?_
      refine z_iload_n dX0_reach_24 rfl rfl ?_
      refine z_iload_n dX0_reach_25 rfl rfl ?_
      refine z_iast dX0_reach_26 rfl rfl (by omega) ?_
      refine z_aload_n dX0_reach_27 rfl rfl ?_
      refine z_getR dX0_reach_28 fl_X0_21 rfl rfl rfl ?_
      refine z_aload_n dX0_reach_31 rfl rfl ?_
      refine z_getI dX0_reach_32 fl_X0_34 rfl rfl (show _ = nI (cnt (σ 4) n) by rw [z_up_o _ _ (Or.inl (by decide))]; exact h.2.2) ?_
      refine z_iload_n dX0_reach_35 rfl rfl ?_
      refine z_iast dX0_reach_36 rfl rfl (by omega) ?_
      refine z_aload_n dX0_reach_37 rfl rfl ?_
      refine z_dup dX0_reach_38 rfl ?_
      refine z_getI dX0_reach_39 fl_X0_34 rfl rfl (show _ = nI (cnt (σ 4) n) by rw [z_up_o _ _ (Or.inl (by decide)), z_up_o _ _ (Or.inl (by decide))]; exact h.2.2) ?_
      refine z_iconst (v := 1) dX0_reach_42 (by decide) ?_
      refine z_iadd dX0_reach_43 (nI_1 _) ?_
      refine z_putI dX0_reach_44 fl_X0_34 rfl rfl (Or.inl rfl) rfl ?_
      refine z_aload_n dX0_reach_47 rfl rfl ?_
      refine z_getR dX0_reach_48 fl_X0_18 rfl rfl rfl ?_
      refine z_iload_n dX0_reach_51 rfl rfl ?_
      refine z_iald dX0_reach_52 rfl rfl (by omega) (show _ = q by simp [z_up]) ?_
      refine z_iload_n dX0_reach_53 rfl rfl ?_
      refine z_icmp_ne (tgt := 61) dX0_reach_54 (by decide) (fun c_ => absurd (rfl) c_) (fun _ => ?_)
      refine z_iconst (v := 1) dX0_reach_57 (by decide) ?_
      refine z_goto (tgt := 62) dX0_reach_58 (by decide) ?_
      exact z_zret dX0_reach_62 rfl (by first | exact Or.inl rfl | exact Or.inr rfl) (by simp [rch, h.2.1, h.2.2, tN_nI (show n < 2 ^ 31 by omega), tN_nI (show cnt (σ 4) n < 2 ^ 31 by omega), Nat.not_le.mpr han, c17]) (by simp [rch, h.2.1, h.2.2, tN_nI (show n < 2 ^ 31 by omega), tN_nI (show cnt (σ 4) n < 2 ^ 31 by omega), Nat.not_le.mpr han, c17])
  · have han : n ≤ a := by
      rcases Nat.lt_or_ge a n with z | z
      · exact absurd (nI_lt z (by omega)) c5
      · exact z
    refine z_iconst (v := 0) dX0_reach_8 (by decide) ?_
    exact z_zret dX0_reach_9 rfl (by first | exact Or.inl rfl | exact Or.inr rfl) (by simp [rch, h.2.1, tN_nI (show n < 2 ^ 31 by omega), han]) (by simp [rch, h.2.1, tN_nI (show n < 2 ^ 31 by omega), han])
theorem tk_ok : ∀ o, o < 16 → z_takes o = nI (tk o) ∧ z_gives o = nI (gv o) := by decide +kernel
theorem tk_2 : ∀ o, o < 16 → tk o ≤ 2 ∧ gv o ≤ 2 := by decide +kernel
def lwB (σ : Nat → Nat → Int32) (a o : Nat) (b : Int32) : Int32 × (Nat → Nat → Int32) :=
  if o = 13 then rch σ (tN (σ 3 a)) b
  else if o = 14 then (if (rch σ (tN (σ 3 a)) b).1 = 0 then rch σ (tN (σ 3 a)) b else rch (rch σ (tN (σ 3 a)) b).2 (a + 1) b)
  else if o = 15 then (1, σ) else rch σ (a + 1) b
def lw (σ : Nat → Nat → Int32) (a : Nat) : Int32 × (Nat → Nat → Int32) :=
  if tN (σ 4 a) < tk (tN (σ 2 a)) ∨ 6 < tN (σ 4 a) - tk (tN (σ 2 a)) + gv (tN (σ 2 a)) then (0, σ)
  else lwB σ a (tN (σ 2 a)) (nI (tN (σ 4 a) - tk (tN (σ 2 a)) + gv (tN (σ 2 a))))
set_option maxRecDepth 100000 in
set_option maxHeartbeats 4000000 in
theorem sp_lwU {d : Nat} {σ : Nat → Nat → Int32} {τ : Nat → Nat → Int64} {n a o q : Nat} (h : cI σ n) (ha : a < n) (ho : σ 2 a = nI o) (ho16 : o < 16) (hq : σ 4 a = nI q) (hq6 : q ≤ 6) (hu : q < tk o) : z_MV M_X0_leadsOnWell (d + 1) 0 0 [.ref 1, .int (nI a)] (124, z_r0, σ, τ) (some (.int (lw σ a).1)) (124, z_r0, (lw σ a).2, τ) := by
  refine z_MV.of pn_X0_leadsOnWell (Nat.le_of_ble_eq_true rfl) (by simp [Value.category]) rfl ?_
  show z_V _ _ _ _ _ _ _ _ _ [_, _, _, _, _, _, _] _ _
  have h40 := h.1
  have ht2 := tk_2 o ho16
  have hb0 : q < tk o ∨ 6 < q - tk o + gv o := Or.inl hu
  refine z_aload_n dX0_leadsOnWell_0 rfl rfl ?_
  refine z_getR dX0_leadsOnWell_1 fl_X0_9 rfl rfl rfl ?_
  refine z_iload_n dX0_leadsOnWell_4 rfl rfl ?_
  refine z_iald dX0_leadsOnWell_5 rfl rfl (by omega) ho ?_
  refine z_istore_n dX0_leadsOnWell_6 rfl (by decide) ?_
  show z_V _ _ _ _ _ _ _ _ _ [_, _, _, _, _, _, _] _ _
  refine z_aload_n dX0_leadsOnWell_7 rfl rfl ?_
  refine z_getR dX0_leadsOnWell_8 fl_X0_18 rfl rfl rfl ?_
  refine z_iload_n dX0_leadsOnWell_11 rfl rfl ?_
  refine z_iald dX0_leadsOnWell_12 rfl rfl (by omega) hq ?_
  refine z_tab (nm := "TAKES") (f := z_takes) (j := o) (y := nI (tk o)) dX0_leadsOnWell_13 dX0_leadsOnWell_16 dX0_leadsOnWell_17 (by simp [z_sts]) sl_45 rfl rfl rfl ho16 (tk_ok o ho16).1 ?_
  refine z_isub dX0_leadsOnWell_18 rfl ?_
  refine z_istore_n dX0_leadsOnWell_19 rfl (by decide) ?_
  show z_V _ _ _ _ _ _ _ _ _ [_, _, _, _, _, _, _] _ _
  refine z_iload_n dX0_leadsOnWell_20 rfl rfl ?_
  refine z_tab (nm := "GIVES") (f := z_gives) (j := o) (y := nI (gv o)) dX0_leadsOnWell_21 dX0_leadsOnWell_24 dX0_leadsOnWell_25 (by simp [z_sts]) sl_48 rfl rfl rfl ho16 (tk_ok o ho16).2 ?_
  refine z_iadd dX0_leadsOnWell_26 rfl ?_
  refine z_istore dX0_leadsOnWell_27 (by decide) ?_
  show z_V _ _ _ _ _ _ _ _ _ [_, _, _, _, _, _, _] _ _
  refine z_iload_n dX0_leadsOnWell_29 rfl rfl ?_
  refine z_if_lt (tgt := 40) dX0_leadsOnWell_30 (by decide) (fun _ => ?_) (fun c_ => absurd (pk_sneg (by omega) hu) c_)
  refine z_iconst (v := 0) dX0_leadsOnWell_40 (by decide) ?_
  exact z_zret dX0_leadsOnWell_41 rfl (by first | exact Or.inl rfl | exact Or.inr rfl) (by simp [lw, ho, hq, tN_nI (show o < 2 ^ 31 by omega), tN_nI (show q < 2 ^ 31 by omega), hb0]) (by simp [lw, ho, hq, tN_nI (show o < 2 ^ 31 by omega), tN_nI (show q < 2 ^ 31 by omega), hb0])
set_option maxRecDepth 100000 in
set_option maxHeartbeats 4000000 in
theorem sp_lwO {d : Nat} {σ : Nat → Nat → Int32} {τ : Nat → Nat → Int64} {n a o q : Nat} (h : cI σ n) (ha : a < n) (ho : σ 2 a = nI o) (ho16 : o < 16) (hq : σ 4 a = nI q) (hq6 : q ≤ 6) (hu : tk o ≤ q) (hv : 6 < q - tk o + gv o) : z_MV M_X0_leadsOnWell (d + 1) 0 0 [.ref 1, .int (nI a)] (124, z_r0, σ, τ) (some (.int (lw σ a).1)) (124, z_r0, (lw σ a).2, τ) := by
  refine z_MV.of pn_X0_leadsOnWell (Nat.le_of_ble_eq_true rfl) (by simp [Value.category]) rfl ?_
  show z_V _ _ _ _ _ _ _ _ _ [_, _, _, _, _, _, _] _ _
  have h40 := h.1
  have ht2 := tk_2 o ho16
  have hb0 : q < tk o ∨ 6 < q - tk o + gv o := Or.inr hv
  refine z_aload_n dX0_leadsOnWell_0 rfl rfl ?_
  refine z_getR dX0_leadsOnWell_1 fl_X0_9 rfl rfl rfl ?_
  refine z_iload_n dX0_leadsOnWell_4 rfl rfl ?_
  refine z_iald dX0_leadsOnWell_5 rfl rfl (by omega) ho ?_
  refine z_istore_n dX0_leadsOnWell_6 rfl (by decide) ?_
  show z_V _ _ _ _ _ _ _ _ _ [_, _, _, _, _, _, _] _ _
  refine z_aload_n dX0_leadsOnWell_7 rfl rfl ?_
  refine z_getR dX0_leadsOnWell_8 fl_X0_18 rfl rfl rfl ?_
  refine z_iload_n dX0_leadsOnWell_11 rfl rfl ?_
  refine z_iald dX0_leadsOnWell_12 rfl rfl (by omega) hq ?_
  refine z_tab (nm := "TAKES") (f := z_takes) (j := o) (y := nI (tk o)) dX0_leadsOnWell_13 dX0_leadsOnWell_16 dX0_leadsOnWell_17 (by simp [z_sts]) sl_45 rfl rfl rfl ho16 (tk_ok o ho16).1 ?_
  refine z_isub dX0_leadsOnWell_18 (pk_sub hu) ?_
  refine z_istore_n dX0_leadsOnWell_19 rfl (by decide) ?_
  show z_V _ _ _ _ _ _ _ _ _ [_, _, _, _, _, _, _] _ _
  refine z_iload_n dX0_leadsOnWell_20 rfl rfl ?_
  refine z_tab (nm := "GIVES") (f := z_gives) (j := o) (y := nI (gv o)) dX0_leadsOnWell_21 dX0_leadsOnWell_24 dX0_leadsOnWell_25 (by simp [z_sts]) sl_48 rfl rfl rfl ho16 (tk_ok o ho16).2 ?_
  refine z_iadd dX0_leadsOnWell_26 (nI_add _ _) ?_
  refine z_istore dX0_leadsOnWell_27 (by decide) ?_
  show z_V _ _ _ _ _ _ _ _ _ [_, _, _, _, _, _, _] _ _
  refine z_iload_n dX0_leadsOnWell_29 rfl rfl ?_
  refine z_if_lt (tgt := 40) dX0_leadsOnWell_30 (by decide) (fun c_ => absurd c_ (nI_pos (by omega))) (fun _ => ?_)
  refine z_iload dX0_leadsOnWell_33 rfl ?_
  refine z_bipush (v := nI 6) dX0_leadsOnWell_35 (by decide) ?_
  refine z_icmp_le (tgt := 42) dX0_leadsOnWell_37 (by decide) (fun c_ => absurd c_ (fun z => absurd ((nI_leI (by omega) (by omega)).mp z) (by omega))) (fun _ => ?_)
  refine z_iconst (v := 0) dX0_leadsOnWell_40 (by decide) ?_
  exact z_zret dX0_leadsOnWell_41 rfl (by first | exact Or.inl rfl | exact Or.inr rfl) (by simp [lw, ho, hq, tN_nI (show o < 2 ^ 31 by omega), tN_nI (show q < 2 ^ 31 by omega), hb0]) (by simp [lw, ho, hq, tN_nI (show o < 2 ^ 31 by omega), tN_nI (show q < 2 ^ 31 by omega), hb0])
set_option maxRecDepth 100000 in
set_option maxHeartbeats 4000000 in
theorem sp_lwG {d : Nat} {σ : Nat → Nat → Int32} {τ : Nat → Nat → Int64} {n a o q : Nat} (h : cI σ n) (ha : a < n) (ho : σ 2 a = nI o) (ho16 : o < 16) (hq : σ 4 a = nI q) (hq6 : q ≤ 6) (h13 : o ≠ 13) (h14 : o ≠ 14) (h15 : o ≠ 15) (hu : tk o ≤ q) (hv : q - tk o + gv o ≤ 6) : z_MV M_X0_leadsOnWell (d + 1) 0 0 [.ref 1, .int (nI a)] (124, z_r0, σ, τ) (some (.int (lw σ a).1)) (124, z_r0, (lw σ a).2, τ) := by
  refine z_MV.of pn_X0_leadsOnWell (Nat.le_of_ble_eq_true rfl) (by simp [Value.category]) rfl ?_
  show z_V _ _ _ _ _ _ _ _ _ [_, _, _, _, _, _, _] _ _
  have h40 := h.1
  have ht2 := tk_2 o ho16
  have hb0 : ¬ (q < tk o ∨ 6 < q - tk o + gv o) := by omega
  have elw : lw σ a = lwB σ a o (nI (q - tk o + gv o)) := by
    unfold lw
    rw [ho, hq, tN_nI (show o < 2 ^ 31 by omega), tN_nI (show q < 2 ^ 31 by omega), if_neg hb0]
  rw [elw]
  refine z_aload_n dX0_leadsOnWell_0 rfl rfl ?_
  refine z_getR dX0_leadsOnWell_1 fl_X0_9 rfl rfl rfl ?_
  refine z_iload_n dX0_leadsOnWell_4 rfl rfl ?_
  refine z_iald dX0_leadsOnWell_5 rfl rfl (by omega) ho ?_
  refine z_istore_n dX0_leadsOnWell_6 rfl (by decide) ?_
  show z_V _ _ _ _ _ _ _ _ _ [_, _, _, _, _, _, _] _ _
  refine z_aload_n dX0_leadsOnWell_7 rfl rfl ?_
  refine z_getR dX0_leadsOnWell_8 fl_X0_18 rfl rfl rfl ?_
  refine z_iload_n dX0_leadsOnWell_11 rfl rfl ?_
  refine z_iald dX0_leadsOnWell_12 rfl rfl (by omega) hq ?_
  refine z_tab (nm := "TAKES") (f := z_takes) (j := o) (y := nI (tk o)) dX0_leadsOnWell_13 dX0_leadsOnWell_16 dX0_leadsOnWell_17 (by simp [z_sts]) sl_45 rfl rfl rfl ho16 (tk_ok o ho16).1 ?_
  refine z_isub dX0_leadsOnWell_18 (pk_sub hu) ?_
  refine z_istore_n dX0_leadsOnWell_19 rfl (by decide) ?_
  show z_V _ _ _ _ _ _ _ _ _ [_, _, _, _, _, _, _] _ _
  refine z_iload_n dX0_leadsOnWell_20 rfl rfl ?_
  refine z_tab (nm := "GIVES") (f := z_gives) (j := o) (y := nI (gv o)) dX0_leadsOnWell_21 dX0_leadsOnWell_24 dX0_leadsOnWell_25 (by simp [z_sts]) sl_48 rfl rfl rfl ho16 (tk_ok o ho16).2 ?_
  refine z_iadd dX0_leadsOnWell_26 (nI_add _ _) ?_
  refine z_istore dX0_leadsOnWell_27 (by decide) ?_
  show z_V _ _ _ _ _ _ _ _ _ [_, _, _, _, _, _, _] _ _
  refine z_iload_n dX0_leadsOnWell_29 rfl rfl ?_
  refine z_if_lt (tgt := 40) dX0_leadsOnWell_30 (by decide) (fun c_ => absurd c_ (nI_pos (by omega))) (fun _ => ?_)
  refine z_iload dX0_leadsOnWell_33 rfl ?_
  refine z_bipush (v := nI 6) dX0_leadsOnWell_35 (by decide) ?_
  refine z_icmp_le (tgt := 42) dX0_leadsOnWell_37 (by decide) (fun _ => ?_) (fun c_ => absurd (nI_le (by omega) (by omega)) c_)
  refine z_iload_n dX0_leadsOnWell_42 rfl rfl ?_
  refine z_bipush (v := nI 13) dX0_leadsOnWell_43 (by decide) ?_
  refine z_icmp_eq (tgt := 54) dX0_leadsOnWell_45 (by decide) (fun c_ => absurd c_ (nI_ne (by omega) (by omega) (by omega))) (fun _ => ?_)
  refine z_iload_n dX0_leadsOnWell_48 rfl rfl ?_
  refine z_bipush (v := nI 14) dX0_leadsOnWell_49 (by decide) ?_
  refine z_icmp_ne (tgt := 58) dX0_leadsOnWell_51 (by decide) (fun _ => ?_) (fun c_ => absurd c_ (nI_ne (by omega) (by omega) (by omega)))
  refine z_iconst (v := 0) dX0_leadsOnWell_58 (by decide) ?_
  refine z_istore dX0_leadsOnWell_59 (by decide) ?_
  show z_V _ _ _ _ _ _ _ _ _ [_, _, _, _, _, _, _] _ _
  refine z_iload_n dX0_leadsOnWell_61 rfl rfl ?_
  refine z_bipush (v := nI 13) dX0_leadsOnWell_62 (by decide) ?_
  refine z_icmp_eq (tgt := 77) dX0_leadsOnWell_64 (by decide) (fun c_ => absurd c_ (nI_ne (by omega) (by omega) (by omega))) (fun _ => ?_)
  refine z_iload_n dX0_leadsOnWell_67 rfl rfl ?_
  refine z_bipush (v := nI 15) dX0_leadsOnWell_68 (by decide) ?_
  refine z_icmp_eq (tgt := 77) dX0_leadsOnWell_70 (by decide) (fun c_ => absurd c_ (nI_ne (by omega) (by omega) (by omega))) (fun _ => ?_)
  refine z_iconst (v := 1) dX0_leadsOnWell_73 (by decide) ?_
  refine z_goto (tgt := 78) dX0_leadsOnWell_74 (by decide) ?_
  refine z_istore dX0_leadsOnWell_78 (by decide) ?_
  show z_V _ _ _ _ _ _ _ _ _ [_, _, _, _, _, _, _] _ _
  refine z_iload dX0_leadsOnWell_80 rfl ?_
  refine z_if_eq (tgt := 100) dX0_leadsOnWell_82 (by decide) (fun _ => ?_) (fun c_ => absurd (rfl) c_)
  refine z_iload dX0_leadsOnWell_100 rfl ?_
  refine z_if_eq (tgt := 117) dX0_leadsOnWell_102 (by decide) (fun c_ => absurd c_ (by decide)) (fun _ => ?_)
  refine z_aload_n dX0_leadsOnWell_105 rfl rfl ?_
  refine z_iload_n dX0_leadsOnWell_106 rfl rfl ?_
  refine z_iconst (v := 1) dX0_leadsOnWell_107 (by decide) ?_
  refine z_iadd dX0_leadsOnWell_108 (nI_1 _) ?_
  refine z_iload dX0_leadsOnWell_109 rfl ?_
  refine z_cV1 dX0_leadsOnWell_111 ml_X0_37 (sp_reach (n := n) h (by omega)) rfl ⟨by decide, rfl⟩ rfl rfl (Nat.le_of_ble_eq_true rfl) ?_
  refine z_if_eq (tgt := 121) dX0_leadsOnWell_114 (by decide) (fun c114 => ?_) (fun c114 => ?_)
  · refine z_iconst (v := 0) dX0_leadsOnWell_121 (by decide) ?_
    exact z_zret dX0_leadsOnWell_122 rfl (by first | exact Or.inl rfl | exact Or.inr rfl) (by unfold lwB; rw [if_neg h13, if_neg h14, if_neg h15, c114]) (by unfold lwB; rw [if_neg h13, if_neg h14, if_neg h15])
  · refine z_iconst (v := 1) dX0_leadsOnWell_117 (by decide) ?_
    refine z_goto (tgt := 122) dX0_leadsOnWell_118 (by decide) ?_
    exact z_zret dX0_leadsOnWell_122 rfl (by first | exact Or.inl rfl | exact Or.inr rfl) (by unfold lwB; rw [if_neg h13, if_neg h14, if_neg h15, rch_01.resolve_left c114]) (by unfold lwB; rw [if_neg h13, if_neg h14, if_neg h15])
set_option maxRecDepth 100000 in
set_option maxHeartbeats 4000000 in
theorem sp_lw15 {d : Nat} {σ : Nat → Nat → Int32} {τ : Nat → Nat → Int64} {n a q : Nat} (h : cI σ n) (ha : a < n) (ho : σ 2 a = nI 15) (hq : σ 4 a = nI q) (hq6 : q ≤ 6) (hu : tk 15 ≤ q) (hv : q - tk 15 + gv 15 ≤ 6) : z_MV M_X0_leadsOnWell (d + 1) 0 0 [.ref 1, .int (nI a)] (124, z_r0, σ, τ) (some (.int (lw σ a).1)) (124, z_r0, (lw σ a).2, τ) := by
  have ho16 : 15 < 16 := by decide
  refine z_MV.of pn_X0_leadsOnWell (Nat.le_of_ble_eq_true rfl) (by simp [Value.category]) rfl ?_
  show z_V _ _ _ _ _ _ _ _ _ [_, _, _, _, _, _, _] _ _
  have h40 := h.1
  have ht2 := tk_2 15 ho16
  have hb0 : ¬ (q < tk 15 ∨ 6 < q - tk 15 + gv 15) := by omega
  have elw : lw σ a = lwB σ a 15 (nI (q - tk 15 + gv 15)) := by
    unfold lw
    rw [ho, hq, tN_nI (show 15 < 2 ^ 31 by omega), tN_nI (show q < 2 ^ 31 by omega), if_neg hb0]
  rw [elw]
  refine z_aload_n dX0_leadsOnWell_0 rfl rfl ?_
  refine z_getR dX0_leadsOnWell_1 fl_X0_9 rfl rfl rfl ?_
  refine z_iload_n dX0_leadsOnWell_4 rfl rfl ?_
  refine z_iald dX0_leadsOnWell_5 rfl rfl (by omega) ho ?_
  refine z_istore_n dX0_leadsOnWell_6 rfl (by decide) ?_
  show z_V _ _ _ _ _ _ _ _ _ [_, _, _, _, _, _, _] _ _
  refine z_aload_n dX0_leadsOnWell_7 rfl rfl ?_
  refine z_getR dX0_leadsOnWell_8 fl_X0_18 rfl rfl rfl ?_
  refine z_iload_n dX0_leadsOnWell_11 rfl rfl ?_
  refine z_iald dX0_leadsOnWell_12 rfl rfl (by omega) hq ?_
  refine z_tab (nm := "TAKES") (f := z_takes) (j := 15) (y := nI (tk 15)) dX0_leadsOnWell_13 dX0_leadsOnWell_16 dX0_leadsOnWell_17 (by simp [z_sts]) sl_45 rfl rfl rfl ho16 (tk_ok 15 ho16).1 ?_
  refine z_isub dX0_leadsOnWell_18 (pk_sub hu) ?_
  refine z_istore_n dX0_leadsOnWell_19 rfl (by decide) ?_
  show z_V _ _ _ _ _ _ _ _ _ [_, _, _, _, _, _, _] _ _
  refine z_iload_n dX0_leadsOnWell_20 rfl rfl ?_
  refine z_tab (nm := "GIVES") (f := z_gives) (j := 15) (y := nI (gv 15)) dX0_leadsOnWell_21 dX0_leadsOnWell_24 dX0_leadsOnWell_25 (by simp [z_sts]) sl_48 rfl rfl rfl ho16 (tk_ok 15 ho16).2 ?_
  refine z_iadd dX0_leadsOnWell_26 (nI_add _ _) ?_
  refine z_istore dX0_leadsOnWell_27 (by decide) ?_
  show z_V _ _ _ _ _ _ _ _ _ [_, _, _, _, _, _, _] _ _
  refine z_iload_n dX0_leadsOnWell_29 rfl rfl ?_
  refine z_if_lt (tgt := 40) dX0_leadsOnWell_30 (by decide) (fun c_ => absurd c_ (nI_pos (by omega))) (fun _ => ?_)
  refine z_iload dX0_leadsOnWell_33 rfl ?_
  refine z_bipush (v := nI 6) dX0_leadsOnWell_35 (by decide) ?_
  refine z_icmp_le (tgt := 42) dX0_leadsOnWell_37 (by decide) (fun _ => ?_) (fun c_ => absurd (nI_le (by omega) (by omega)) c_)
  refine z_iload_n dX0_leadsOnWell_42 rfl rfl ?_
  refine z_bipush (v := nI 13) dX0_leadsOnWell_43 (by decide) ?_
  refine z_icmp_eq (tgt := 54) dX0_leadsOnWell_45 (by decide) (fun c_ => absurd c_ (nI_ne (by decide) (by decide) (by decide))) (fun _ => ?_)
  refine z_iload_n dX0_leadsOnWell_48 rfl rfl ?_
  refine z_bipush (v := nI 14) dX0_leadsOnWell_49 (by decide) ?_
  refine z_icmp_ne (tgt := 58) dX0_leadsOnWell_51 (by decide) (fun _ => ?_) (fun c_ => absurd c_ (nI_ne (by decide) (by decide) (by decide)))
  refine z_iconst (v := 0) dX0_leadsOnWell_58 (by decide) ?_
  refine z_istore dX0_leadsOnWell_59 (by decide) ?_
  show z_V _ _ _ _ _ _ _ _ _ [_, _, _, _, _, _, _] _ _
  refine z_iload_n dX0_leadsOnWell_61 rfl rfl ?_
  refine z_bipush (v := nI 13) dX0_leadsOnWell_62 (by decide) ?_
  refine z_icmp_eq (tgt := 77) dX0_leadsOnWell_64 (by decide) (fun c_ => absurd c_ (nI_ne (by decide) (by decide) (by decide))) (fun _ => ?_)
  refine z_iload_n dX0_leadsOnWell_67 rfl rfl ?_
  refine z_bipush (v := nI 15) dX0_leadsOnWell_68 (by decide) ?_
  refine z_icmp_eq (tgt := 77) dX0_leadsOnWell_70 (by decide) (fun _ => ?_) (fun c_ => absurd (rfl) c_)
  refine z_iconst (v := 0) dX0_leadsOnWell_77 (by decide) ?_
  refine z_istore dX0_leadsOnWell_78 (by decide) ?_
  show z_V _ _ _ _ _ _ _ _ _ [_, _, _, _, _, _, _] _ _
  refine z_iload dX0_leadsOnWell_80 rfl ?_
  refine z_if_eq (tgt := 100) dX0_leadsOnWell_82 (by decide) (fun _ => ?_) (fun c_ => absurd (rfl) c_)
  refine z_iload dX0_leadsOnWell_100 rfl ?_
  refine z_if_eq (tgt := 117) dX0_leadsOnWell_102 (by decide) (fun _ => ?_) (fun c_ => absurd (rfl) c_)
  refine z_iconst (v := 1) dX0_leadsOnWell_117 (by decide) ?_
  refine z_goto (tgt := 122) dX0_leadsOnWell_118 (by decide) ?_
  exact z_zret dX0_leadsOnWell_122 rfl (by first | exact Or.inl rfl | exact Or.inr rfl) rfl rfl
set_option maxRecDepth 100000 in
set_option maxHeartbeats 4000000 in
theorem sp_lw13 {d : Nat} {σ : Nat → Nat → Int32} {τ : Nat → Nat → Int64} {n a q : Nat} (h : cI σ n) (ha : a < n) (ho : σ 2 a = nI 13) (hq : σ 4 a = nI q) (hq6 : q ≤ 6) {l : Nat} (hl : l < 40) (hx : σ 3 a = nI l) (hu : tk 13 ≤ q) (hv : q - tk 13 + gv 13 ≤ 6) : z_MV M_X0_leadsOnWell (d + 1) 0 0 [.ref 1, .int (nI a)] (124, z_r0, σ, τ) (some (.int (lw σ a).1)) (124, z_r0, (lw σ a).2, τ) := by
  have ho16 : 13 < 16 := by decide
  refine z_MV.of pn_X0_leadsOnWell (Nat.le_of_ble_eq_true rfl) (by simp [Value.category]) rfl ?_
  show z_V _ _ _ _ _ _ _ _ _ [_, _, _, _, _, _, _] _ _
  have h40 := h.1
  have ht2 := tk_2 13 ho16
  have hb0 : ¬ (q < tk 13 ∨ 6 < q - tk 13 + gv 13) := by omega
  have elw : lw σ a = lwB σ a 13 (nI (q - tk 13 + gv 13)) := by
    unfold lw
    rw [ho, hq, tN_nI (show 13 < 2 ^ 31 by omega), tN_nI (show q < 2 ^ 31 by omega), if_neg hb0]
  rw [elw]
  refine z_aload_n dX0_leadsOnWell_0 rfl rfl ?_
  refine z_getR dX0_leadsOnWell_1 fl_X0_9 rfl rfl rfl ?_
  refine z_iload_n dX0_leadsOnWell_4 rfl rfl ?_
  refine z_iald dX0_leadsOnWell_5 rfl rfl (by omega) ho ?_
  refine z_istore_n dX0_leadsOnWell_6 rfl (by decide) ?_
  show z_V _ _ _ _ _ _ _ _ _ [_, _, _, _, _, _, _] _ _
  refine z_aload_n dX0_leadsOnWell_7 rfl rfl ?_
  refine z_getR dX0_leadsOnWell_8 fl_X0_18 rfl rfl rfl ?_
  refine z_iload_n dX0_leadsOnWell_11 rfl rfl ?_
  refine z_iald dX0_leadsOnWell_12 rfl rfl (by omega) hq ?_
  refine z_tab (nm := "TAKES") (f := z_takes) (j := 13) (y := nI (tk 13)) dX0_leadsOnWell_13 dX0_leadsOnWell_16 dX0_leadsOnWell_17 (by simp [z_sts]) sl_45 rfl rfl rfl ho16 (tk_ok 13 ho16).1 ?_
  refine z_isub dX0_leadsOnWell_18 (pk_sub hu) ?_
  refine z_istore_n dX0_leadsOnWell_19 rfl (by decide) ?_
  show z_V _ _ _ _ _ _ _ _ _ [_, _, _, _, _, _, _] _ _
  refine z_iload_n dX0_leadsOnWell_20 rfl rfl ?_
  refine z_tab (nm := "GIVES") (f := z_gives) (j := 13) (y := nI (gv 13)) dX0_leadsOnWell_21 dX0_leadsOnWell_24 dX0_leadsOnWell_25 (by simp [z_sts]) sl_48 rfl rfl rfl ho16 (tk_ok 13 ho16).2 ?_
  refine z_iadd dX0_leadsOnWell_26 (nI_add _ _) ?_
  refine z_istore dX0_leadsOnWell_27 (by decide) ?_
  show z_V _ _ _ _ _ _ _ _ _ [_, _, _, _, _, _, _] _ _
  refine z_iload_n dX0_leadsOnWell_29 rfl rfl ?_
  refine z_if_lt (tgt := 40) dX0_leadsOnWell_30 (by decide) (fun c_ => absurd c_ (nI_pos (by omega))) (fun _ => ?_)
  refine z_iload dX0_leadsOnWell_33 rfl ?_
  refine z_bipush (v := nI 6) dX0_leadsOnWell_35 (by decide) ?_
  refine z_icmp_le (tgt := 42) dX0_leadsOnWell_37 (by decide) (fun _ => ?_) (fun c_ => absurd (nI_le (by omega) (by omega)) c_)
  refine z_iload_n dX0_leadsOnWell_42 rfl rfl ?_
  refine z_bipush (v := nI 13) dX0_leadsOnWell_43 (by decide) ?_
  refine z_icmp_eq (tgt := 54) dX0_leadsOnWell_45 (by decide) (fun _ => ?_) (fun c_ => absurd (rfl) c_)
  refine z_iconst (v := 1) dX0_leadsOnWell_54 (by decide) ?_
  refine z_goto (tgt := 59) dX0_leadsOnWell_55 (by decide) ?_
  refine z_istore dX0_leadsOnWell_59 (by decide) ?_
  show z_V _ _ _ _ _ _ _ _ _ [_, _, _, _, _, _, _] _ _
  refine z_iload_n dX0_leadsOnWell_61 rfl rfl ?_
  refine z_bipush (v := nI 13) dX0_leadsOnWell_62 (by decide) ?_
  refine z_icmp_eq (tgt := 77) dX0_leadsOnWell_64 (by decide) (fun _ => ?_) (fun c_ => absurd (rfl) c_)
  refine z_iconst (v := 0) dX0_leadsOnWell_77 (by decide) ?_
  refine z_istore dX0_leadsOnWell_78 (by decide) ?_
  show z_V _ _ _ _ _ _ _ _ _ [_, _, _, _, _, _, _] _ _
  refine z_iload dX0_leadsOnWell_80 rfl ?_
  refine z_if_eq (tgt := 100) dX0_leadsOnWell_82 (by decide) (fun c_ => absurd c_ (by decide)) (fun _ => ?_)
  refine z_aload_n dX0_leadsOnWell_85 rfl rfl ?_
  refine z_aload_n dX0_leadsOnWell_86 rfl rfl ?_
  refine z_getR dX0_leadsOnWell_87 fl_X0_15 rfl rfl rfl ?_
  refine z_iload_n dX0_leadsOnWell_90 rfl rfl ?_
  refine z_iald dX0_leadsOnWell_91 rfl rfl (by omega) hx ?_
  refine z_iload dX0_leadsOnWell_92 rfl ?_
  refine z_cV1 dX0_leadsOnWell_94 ml_X0_37 (sp_reach (n := n) h (by omega)) rfl ⟨by decide, rfl⟩ rfl rfl (Nat.le_of_ble_eq_true rfl) ?_
  refine z_if_eq (tgt := 121) dX0_leadsOnWell_97 (by decide) (fun c97 => ?_) (fun c97 => ?_)
  · refine z_iconst (v := 0) dX0_leadsOnWell_121 (by decide) ?_
    exact z_zret dX0_leadsOnWell_122 rfl (by first | exact Or.inl rfl | exact Or.inr rfl) (by unfold lwB; rw [if_pos rfl, hx, tN_nI (by omega), c97]) (by unfold lwB; rw [if_pos rfl, hx, tN_nI (by omega)])
  · refine z_iload dX0_leadsOnWell_100 rfl ?_
    refine z_if_eq (tgt := 117) dX0_leadsOnWell_102 (by decide) (fun _ => ?_) (fun c_ => absurd (rfl) c_)
    refine z_iconst (v := 1) dX0_leadsOnWell_117 (by decide) ?_
    refine z_goto (tgt := 122) dX0_leadsOnWell_118 (by decide) ?_
    exact z_zret dX0_leadsOnWell_122 rfl (by first | exact Or.inl rfl | exact Or.inr rfl) (by unfold lwB; rw [if_pos rfl, hx, tN_nI (by omega), rch_01.resolve_left c97]) (by unfold lwB; rw [if_pos rfl, hx, tN_nI (by omega)])
set_option maxRecDepth 100000 in
set_option maxHeartbeats 4000000 in
theorem sp_lw14 {d : Nat} {σ : Nat → Nat → Int32} {τ : Nat → Nat → Int64} {n a q : Nat} (h : cI σ n) (ha : a < n) (ho : σ 2 a = nI 14) (hq : σ 4 a = nI q) (hq6 : q ≤ 6) {l : Nat} (hl : l < 40) (hx : σ 3 a = nI l) (hu : tk 14 ≤ q) (hv : q - tk 14 + gv 14 ≤ 6) : z_MV M_X0_leadsOnWell (d + 1) 0 0 [.ref 1, .int (nI a)] (124, z_r0, σ, τ) (some (.int (lw σ a).1)) (124, z_r0, (lw σ a).2, τ) := by
  have ho16 : 14 < 16 := by decide
  refine z_MV.of pn_X0_leadsOnWell (Nat.le_of_ble_eq_true rfl) (by simp [Value.category]) rfl ?_
  show z_V _ _ _ _ _ _ _ _ _ [_, _, _, _, _, _, _] _ _
  have h40 := h.1
  have ht2 := tk_2 14 ho16
  have hb0 : ¬ (q < tk 14 ∨ 6 < q - tk 14 + gv 14) := by omega
  have elw : lw σ a = lwB σ a 14 (nI (q - tk 14 + gv 14)) := by
    unfold lw
    rw [ho, hq, tN_nI (show 14 < 2 ^ 31 by omega), tN_nI (show q < 2 ^ 31 by omega), if_neg hb0]
  rw [elw]
  refine z_aload_n dX0_leadsOnWell_0 rfl rfl ?_
  refine z_getR dX0_leadsOnWell_1 fl_X0_9 rfl rfl rfl ?_
  refine z_iload_n dX0_leadsOnWell_4 rfl rfl ?_
  refine z_iald dX0_leadsOnWell_5 rfl rfl (by omega) ho ?_
  refine z_istore_n dX0_leadsOnWell_6 rfl (by decide) ?_
  show z_V _ _ _ _ _ _ _ _ _ [_, _, _, _, _, _, _] _ _
  refine z_aload_n dX0_leadsOnWell_7 rfl rfl ?_
  refine z_getR dX0_leadsOnWell_8 fl_X0_18 rfl rfl rfl ?_
  refine z_iload_n dX0_leadsOnWell_11 rfl rfl ?_
  refine z_iald dX0_leadsOnWell_12 rfl rfl (by omega) hq ?_
  refine z_tab (nm := "TAKES") (f := z_takes) (j := 14) (y := nI (tk 14)) dX0_leadsOnWell_13 dX0_leadsOnWell_16 dX0_leadsOnWell_17 (by simp [z_sts]) sl_45 rfl rfl rfl ho16 (tk_ok 14 ho16).1 ?_
  refine z_isub dX0_leadsOnWell_18 (pk_sub hu) ?_
  refine z_istore_n dX0_leadsOnWell_19 rfl (by decide) ?_
  show z_V _ _ _ _ _ _ _ _ _ [_, _, _, _, _, _, _] _ _
  refine z_iload_n dX0_leadsOnWell_20 rfl rfl ?_
  refine z_tab (nm := "GIVES") (f := z_gives) (j := 14) (y := nI (gv 14)) dX0_leadsOnWell_21 dX0_leadsOnWell_24 dX0_leadsOnWell_25 (by simp [z_sts]) sl_48 rfl rfl rfl ho16 (tk_ok 14 ho16).2 ?_
  refine z_iadd dX0_leadsOnWell_26 (nI_add _ _) ?_
  refine z_istore dX0_leadsOnWell_27 (by decide) ?_
  show z_V _ _ _ _ _ _ _ _ _ [_, _, _, _, _, _, _] _ _
  refine z_iload_n dX0_leadsOnWell_29 rfl rfl ?_
  refine z_if_lt (tgt := 40) dX0_leadsOnWell_30 (by decide) (fun c_ => absurd c_ (nI_pos (by omega))) (fun _ => ?_)
  refine z_iload dX0_leadsOnWell_33 rfl ?_
  refine z_bipush (v := nI 6) dX0_leadsOnWell_35 (by decide) ?_
  refine z_icmp_le (tgt := 42) dX0_leadsOnWell_37 (by decide) (fun _ => ?_) (fun c_ => absurd (nI_le (by omega) (by omega)) c_)
  refine z_iload_n dX0_leadsOnWell_42 rfl rfl ?_
  refine z_bipush (v := nI 13) dX0_leadsOnWell_43 (by decide) ?_
  refine z_icmp_eq (tgt := 54) dX0_leadsOnWell_45 (by decide) (fun c_ => absurd c_ (nI_ne (by decide) (by decide) (by decide))) (fun _ => ?_)
  refine z_iload_n dX0_leadsOnWell_48 rfl rfl ?_
  refine z_bipush (v := nI 14) dX0_leadsOnWell_49 (by decide) ?_
  refine z_icmp_ne (tgt := 58) dX0_leadsOnWell_51 (by decide) (fun c_ => absurd (rfl) c_) (fun _ => ?_)
  refine z_iconst (v := 1) dX0_leadsOnWell_54 (by decide) ?_
  refine z_goto (tgt := 59) dX0_leadsOnWell_55 (by decide) ?_
  refine z_istore dX0_leadsOnWell_59 (by decide) ?_
  show z_V _ _ _ _ _ _ _ _ _ [_, _, _, _, _, _, _] _ _
  refine z_iload_n dX0_leadsOnWell_61 rfl rfl ?_
  refine z_bipush (v := nI 13) dX0_leadsOnWell_62 (by decide) ?_
  refine z_icmp_eq (tgt := 77) dX0_leadsOnWell_64 (by decide) (fun c_ => absurd c_ (nI_ne (by decide) (by decide) (by decide))) (fun _ => ?_)
  refine z_iload_n dX0_leadsOnWell_67 rfl rfl ?_
  refine z_bipush (v := nI 15) dX0_leadsOnWell_68 (by decide) ?_
  refine z_icmp_eq (tgt := 77) dX0_leadsOnWell_70 (by decide) (fun c_ => absurd c_ (nI_ne (by decide) (by decide) (by decide))) (fun _ => ?_)
  refine z_iconst (v := 1) dX0_leadsOnWell_73 (by decide) ?_
  refine z_goto (tgt := 78) dX0_leadsOnWell_74 (by decide) ?_
  refine z_istore dX0_leadsOnWell_78 (by decide) ?_
  show z_V _ _ _ _ _ _ _ _ _ [_, _, _, _, _, _, _] _ _
  refine z_iload dX0_leadsOnWell_80 rfl ?_
  refine z_if_eq (tgt := 100) dX0_leadsOnWell_82 (by decide) (fun c_ => absurd c_ (by decide)) (fun _ => ?_)
  refine z_aload_n dX0_leadsOnWell_85 rfl rfl ?_
  refine z_aload_n dX0_leadsOnWell_86 rfl rfl ?_
  refine z_getR dX0_leadsOnWell_87 fl_X0_15 rfl rfl rfl ?_
  refine z_iload_n dX0_leadsOnWell_90 rfl rfl ?_
  refine z_iald dX0_leadsOnWell_91 rfl rfl (by omega) hx ?_
  refine z_iload dX0_leadsOnWell_92 rfl ?_
  refine z_cV1 dX0_leadsOnWell_94 ml_X0_37 (sp_reach (n := n) h (by omega)) rfl ⟨by decide, rfl⟩ rfl rfl (Nat.le_of_ble_eq_true rfl) ?_
  refine z_if_eq (tgt := 121) dX0_leadsOnWell_97 (by decide) (fun c97 => ?_) (fun c97 => ?_)
  · refine z_iconst (v := 0) dX0_leadsOnWell_121 (by decide) ?_
    exact z_zret dX0_leadsOnWell_122 rfl (by first | exact Or.inl rfl | exact Or.inr rfl) (by unfold lwB; rw [if_neg (by decide), if_pos rfl, hx, tN_nI (by omega), if_pos c97, c97]) (by unfold lwB; rw [if_neg (by decide), if_pos rfl, hx, tN_nI (by omega), if_pos c97])
  · refine z_iload dX0_leadsOnWell_100 rfl ?_
    refine z_if_eq (tgt := 117) dX0_leadsOnWell_102 (by decide) (fun c_ => absurd c_ (by decide)) (fun _ => ?_)
    refine z_aload_n dX0_leadsOnWell_105 rfl rfl ?_
    refine z_iload_n dX0_leadsOnWell_106 rfl rfl ?_
    refine z_iconst (v := 1) dX0_leadsOnWell_107 (by decide) ?_
    refine z_iadd dX0_leadsOnWell_108 (nI_1 _) ?_
    refine z_iload dX0_leadsOnWell_109 rfl ?_
    refine z_cV1 dX0_leadsOnWell_111 ml_X0_37 (sp_reach (n := n) (cI_rch (by omega) h) (by omega)) rfl ⟨by decide, rfl⟩ rfl rfl (Nat.le_of_ble_eq_true rfl) ?_
    refine z_if_eq (tgt := 121) dX0_leadsOnWell_114 (by decide) (fun c114 => ?_) (fun c114 => ?_)
    · refine z_iconst (v := 0) dX0_leadsOnWell_121 (by decide) ?_
      exact z_zret dX0_leadsOnWell_122 rfl (by first | exact Or.inl rfl | exact Or.inr rfl) (by unfold lwB; rw [if_neg (by decide), if_pos rfl, hx, tN_nI (by omega), if_neg c97, c114]) (by unfold lwB; rw [if_neg (by decide), if_pos rfl, hx, tN_nI (by omega), if_neg c97])
    · refine z_iconst (v := 1) dX0_leadsOnWell_117 (by decide) ?_
      refine z_goto (tgt := 122) dX0_leadsOnWell_118 (by decide) ?_
      exact z_zret dX0_leadsOnWell_122 rfl (by first | exact Or.inl rfl | exact Or.inr rfl) (by unfold lwB; rw [if_neg (by decide), if_pos rfl, hx, tN_nI (by omega), if_neg c97, rch_01.resolve_left c114]) (by unfold lwB; rw [if_neg (by decide), if_pos rfl, hx, tN_nI (by omega), if_neg c97])
theorem sp_lw {d : Nat} {σ : Nat → Nat → Int32} {τ : Nat → Nat → Int64} {n a o q : Nat} (h : cI σ n) (ha : a < n) (ho : σ 2 a = nI o) (ho16 : o < 16) (hq : σ 4 a = nI q) (hq6 : q ≤ 6) (hj : o = 13 ∨ o = 14 → ∃ l, l < 40 ∧ σ 3 a = nI l) : z_MV M_X0_leadsOnWell (d + 1) 0 0 [.ref 1, .int (nI a)] (124, z_r0, σ, τ) (some (.int (lw σ a).1)) (124, z_r0, (lw σ a).2, τ) := by
  rcases Nat.lt_or_ge q (tk o) with hu | hu
  · exact sp_lwU h ha ho ho16 hq hq6 hu
  · rcases Nat.lt_or_ge 6 (q - tk o + gv o) with hv | hv
    · exact sp_lwO h ha ho ho16 hq hq6 hu hv
    · by_cases h13 : o = 13
      · subst h13
        obtain ⟨l, hl, hx⟩ := hj (Or.inl rfl)
        exact sp_lw13 h ha ho hq hq6 hl hx hu hv
      · by_cases h14 : o = 14
        · subst h14
          obtain ⟨l, hl, hx⟩ := hj (Or.inr rfl)
          exact sp_lw14 h ha ho hq hq6 hl hx hu hv
        · by_cases h15 : o = 15
          · subst h15
            exact sp_lw15 h ha ho hq hq6 hu hv
          · exact sp_lwG h ha ho ho16 hq hq6 h13 h14 h15 hu hv
