/-! PART 33: Code.isSound, isInstruction -/
def wfC (σ : Nat → Nat → Int32) (n : Nat) : Prop := ∀ a, a < n → ∃ o, o < 16 ∧ σ 2 a = nI o ∧ (o = 13 ∨ o = 14 → ∃ l, l < 40 ∧ σ 3 a = nI l)
def gI (σ : Nat → Nat → Int32) (n : Nat) : Prop := cI σ n ∧ (∀ r, r < cnt (σ 4) n → ∃ a, a < n ∧ σ 5 r = nI a ∧ ∃ q, q ≤ 6 ∧ σ 4 a = nI q) ∧ wfC σ n
theorem gI_rch {σ : Nat → Nat → Int32} {n a q : Nat} (hq : q ≤ 6) (h : gI σ n) : gI (rch σ a (nI q)).2 n := by
  obtain ⟨h1, h2, h3⟩ := h
  refine ⟨cI_rch (by omega) h1, ?_, ?_⟩
  · obtain ⟨h40, hn, hc⟩ := h1
    have hle := cnt_le (σ 4) n
    unfold rch
    rw [hn, hc, tN_nI (by omega), tN_nI (by omega)]
    split
    · exact h2
    · split
      next hna hm =>
        have e4 : z_up (z_up (z_up σ 4 a (nI q)) 5 (cnt (σ 4) n) (nI a)) 1 5 (nI (cnt (σ 4) n + 1)) 4 = va_up (σ 4) a (nI q) := by
          rw [z_up_ne _ _ _ (by decide), z_up_ne _ _ _ (by decide), z_up_row]
        have e5 : z_up (z_up (z_up σ 4 a (nI q)) 5 (cnt (σ 4) n) (nI a)) 1 5 (nI (cnt (σ 4) n + 1)) 5 = va_up (σ 5) (cnt (σ 4) n) (nI a) := by
          rw [z_up_ne _ _ _ (by decide), z_up_row, z_up_ne _ _ _ (by decide)]
        show ∀ r, r < cnt (z_up (z_up (z_up σ 4 a (nI q)) 5 (cnt (σ 4) n) (nI a)) 1 5 (nI (cnt (σ 4) n + 1)) 4) n → _
        intro r hr
        rw [e4, cnt_up (by omega) hm (nI_nm1 (by omega))] at hr
        show ∃ a', a' < n ∧ z_up (z_up (z_up σ 4 a (nI q)) 5 (cnt (σ 4) n) (nI a)) 1 5 (nI (cnt (σ 4) n + 1)) 5 r = nI a' ∧ ∃ q', q' ≤ 6 ∧ z_up (z_up (z_up σ 4 a (nI q)) 5 (cnt (σ 4) n) (nI a)) 1 5 (nI (cnt (σ 4) n + 1)) 4 a' = nI q'
        rw [e4, e5]
        by_cases hrc : r = cnt (σ 4) n
        · subst hrc
          exact ⟨a, by omega, by simp [va_up], q, hq, by simp [va_up]⟩
        · obtain ⟨a', g1, g2, q', g3, g4⟩ := h2 r (by omega)
          have hne : a' ≠ a := fun z => by subst z; rw [g4] at hm; exact nI_nm1 (by omega) hm
          exact ⟨a', g1, by simp [va_up, hrc, g2], q', g3, by simp [va_up, hne, g4]⟩
      next => exact h2
  · unfold wfC
    rw [rch_lo (by decide), rch_lo (by decide)]
    exact h3
theorem gI_lw {σ : Nat → Nat → Int32} {n a : Nat} (ha : ∃ q, q ≤ 6 ∧ σ 4 a = nI q) (ho : ∃ o, o < 16 ∧ σ 2 a = nI o) (h : gI σ n) : gI (lw σ a).2 n := by
  obtain ⟨q, hq, hq4⟩ := ha
  obtain ⟨o, ho16, ho2⟩ := ho
  unfold lw
  rw [hq4, ho2, tN_nI (by omega), tN_nI (by omega)]
  split
  · exact h
  · next hb =>
    unfold lwB
    split
    · exact gI_rch (by omega) h
    · split
      · split
        · exact gI_rch (by omega) h
        · exact gI_rch (by omega) (gI_rch (by omega) h)
      · split
        · exact h
        · exact gI_rch (by omega) h
theorem lw_01 {σ : Nat → Nat → Int32} {a : Nat} : (lw σ a).1 = 0 ∨ (lw σ a).1 = 1 := by
  unfold lw
  split
  · exact Or.inl rfl
  · unfold lwB
    split
    · exact rch_01
    · split
      · split
        · exact rch_01
        · exact rch_01
      · split
        · exact Or.inr rfl
        · exact rch_01
def sndL : Nat → Nat → Int32 → (Nat → Nat → Int32) → Int32 × (Nat → Nat → Int32)
  | 0, _, s, σ => (s, σ)
  | m + 1, r, s, σ => if s = 0 then (s, σ) else if tN (σ 1 5) ≤ r then (s, σ) else sndL m (r + 1) (lw σ (tN (σ 5 r))).1 (lw σ (tN (σ 5 r))).2
def snd0 (σ : Nat → Nat → Int32) : Nat → Nat → Int32 := z_up (fillR σ 4 (-1) 40) 1 5 0
def snd (σ : Nat → Nat → Int32) : Int32 × (Nat → Nat → Int32) := sndL 40 0 (rch (snd0 σ) 0 0).1 (rch (snd0 σ) 0 0).2
theorem cnt_0 {f : Nat → Int32} {n : Nat} (h : ∀ i, i < n → f i = -1) : cnt f n = 0 := by
  induction n with
  | zero => rfl
  | succ n ih => simp only [cnt]; rw [ih (fun i hi => h i (by omega)), if_pos (h n (by omega))]
theorem gI_0 {σ : Nat → Nat → Int32} {n : Nat} (h40 : n ≤ 40) (hn : σ 1 2 = nI n) (hw : wfC σ n) : gI (snd0 σ) n := by
  have e4 : ∀ i, i < n → snd0 σ 4 i = -1 := fun i hi => by
    have : i < 40 := by omega
    simp [snd0, z_up, fillR, z_row, this]
  have hc := cnt_0 e4
  refine ⟨⟨h40, by simp [snd0, z_up, fillR, z_row, hn], by rw [hc]; simp [snd0, z_up, nI_0]⟩, fun r hr => by omega, ?_⟩
  unfold wfC
  rw [show snd0 σ 2 = σ 2 by unfold snd0; rw [z_up_ne _ _ _ (by decide)]; simp [fillR, z_row], show snd0 σ 3 = σ 3 by unfold snd0; rw [z_up_ne _ _ _ (by decide)]; simp [fillR, z_row]]
  exact hw
set_option maxRecDepth 100000 in
set_option maxHeartbeats 4000000 in
theorem isSound_loop {d : Nat} {τ : Nat → Nat → Int64} {n : Nat} : ∀ (m r : Nat) (s : Int32) (σ : Nat → Nat → Int32), (s = 0 ∨ s = 1) → gI σ n → 40 ≤ m + r → r ≤ 40 → z_V M_X0_isSound (d + 2) 0 0 0 0 (some (.int (sndL m r s σ).1)) (124, z_r0, (sndL m r s σ).2, τ) 22 [some (.ref 1), some (.int s), some (.int (nI r))] [] (124, z_r0, σ, τ) := by
  intro m
  induction m using Nat.strongRecOn with
  | ind m ih =>
    intro r s σ hs hg hm hr40
    have hle := cnt_le (σ 4) n
    have h40 := hg.1.1
    refine z_iload_n dX0_isSound_22 rfl rfl ?_
    refine z_if_eq (tgt := 59) dX0_isSound_23 (by decide) (fun c23 => ?_) (fun c23 => ?_)
    · have e1 : sndL m r s σ = (s, σ) := by
        cases m with
        | zero => rfl
        | succ m => simp only [sndL]; rw [if_pos c23]
      rw [e1]
      refine z_iload_n dX0_isSound_59 rfl rfl ?_
      exact z_zret dX0_isSound_60 rfl hs rfl rfl
    · refine z_iload_n dX0_isSound_26 rfl rfl ?_
      refine z_aload_n dX0_isSound_27 rfl rfl ?_
      refine z_getI dX0_isSound_28 fl_X0_34 rfl rfl hg.1.2.2 ?_
      refine z_icmp_ge (tgt := 59) dX0_isSound_31 (by decide) (fun c31 => ?_) (fun c31 => ?_)
      · have hrc : cnt (σ 4) n ≤ r := by
          rcases Nat.lt_or_ge r (cnt (σ 4) n) with z | z
          · exact absurd c31 (nI_ge z (by omega))
          · exact z
        have e1 : sndL m r s σ = (s, σ) := by
          cases m with
          | zero => rfl
          | succ m => simp only [sndL]; rw [if_neg c23, hg.1.2.2, tN_nI (by omega), if_pos hrc]
        rw [e1]
        refine z_iload_n dX0_isSound_59 rfl rfl ?_
        exact z_zret dX0_isSound_60 rfl hs rfl rfl
      · have hrc : r < cnt (σ 4) n := by
          rcases Nat.lt_or_ge r (cnt (σ 4) n) with z | z
          · exact z
          · exact absurd (nI_le z (by omega)) c31
        obtain ⟨m, rfl⟩ : ∃ k, m = k + 1 := ⟨m - 1, by omega⟩
        obtain ⟨a, ha, h5, q, hq6, hq⟩ := hg.2.1 r hrc
        obtain ⟨o, ho16, ho, hj⟩ := hg.2.2 a ha
        have e1 : sndL (m + 1) r s σ = sndL m (r + 1) (lw σ a).1 (lw σ a).2 := by
          simp only [sndL]; rw [if_neg c23, hg.1.2.2, tN_nI (by omega), if_neg (by omega), h5, tN_nI (by omega)]
        rw [e1]
        refine z_iload_n dX0_isSound_34 rfl rfl ?_
        refine z_aload_n dX0_isSound_35 rfl rfl ?_
        refine z_getI dX0_isSound_36 fl_X0_24 rfl rfl hg.1.2.1 ?_
        refine z_icmp_ge (tgt := 59) dX0_isSound_39 (by decide) (fun c_ => absurd c_ (nI_ge (Nat.lt_of_lt_of_le hrc hle) (by omega))) (fun _ => ?_)
        refine z_aload_n dX0_isSound_42 rfl rfl ?_
        refine z_aload_n dX0_isSound_43 rfl rfl ?_
        refine z_getR dX0_isSound_44 fl_X0_21 rfl rfl rfl ?_
        refine z_iload_n dX0_isSound_47 rfl rfl ?_
        refine z_iald dX0_isSound_48 rfl rfl (by omega) h5 ?_
        refine z_cV1 dX0_isSound_49 ml_X0_41 (sp_lw hg.1 ha ho ho16 hq hq6 hj) rfl ⟨by decide, rfl⟩ rfl rfl (Nat.le_of_ble_eq_true rfl) ?_
        refine z_istore_n dX0_isSound_52 rfl (by decide) ?_
        show z_V _ _ _ _ _ _ _ _ _ [_, _, _] _ _
        refine z_iinc dX0_isSound_53 rfl (nI_i _) (by decide) ?_
        show z_V _ _ _ _ _ _ _ _ _ [_, _, _] _ _
        refine z_goto (tgt := 22) dX0_isSound_56 (by decide) ?_
        exact ih m (by omega) (r + 1) _ _ lw_01 (gI_lw ⟨q, hq6, hq⟩ ⟨o, ho16, ho⟩ hg) (by omega) (by omega)
set_option maxRecDepth 100000 in
set_option maxHeartbeats 4000000 in
theorem sp_isSound {d : Nat} {σ : Nat → Nat → Int32} {τ : Nat → Nat → Int64} {n : Nat} (h40 : n ≤ 40) (hn : σ 1 2 = nI n) (hw : wfC σ n) : z_MV M_X0_isSound (d + 2) 0 0 [.ref 1] (124, z_r0, σ, τ) (some (.int (snd σ).1)) (124, z_r0, (snd σ).2, τ) := by
  refine z_MV.of pn_X0_isSound (Nat.le_of_ble_eq_true rfl) (by simp [Value.category]) rfl ?_
  show z_V _ _ _ _ _ _ _ _ _ [_, _, _] _ _
  refine z_aload_n dX0_isSound_0 rfl rfl ?_
  refine z_getR dX0_isSound_1 fl_X0_18 rfl rfl rfl ?_
  refine z_iconst (v := (-1)) dX0_isSound_4 (by decide) ?_
  refine z_cS0 dX0_isSound_5 ml_X0_28 (sp_fill (by rfl)) rfl rfl (Nat.le_of_ble_eq_true rfl) ?_
  refine z_aload_n dX0_isSound_8 rfl rfl ?_
  refine z_iconst (v := 0) dX0_isSound_9 (by decide) ?_
  refine z_putI dX0_isSound_10 fl_X0_34 rfl rfl (Or.inl rfl) rfl ?_
  refine z_aload_n dX0_isSound_13 rfl rfl ?_
  refine z_iconst (v := 0) dX0_isSound_14 (by decide) ?_
  refine z_iconst (v := 0) dX0_isSound_15 (by decide) ?_
  refine z_cV1 dX0_isSound_16 ml_X0_37 (sp_reach (σ := snd0 σ) (n := n) (a := 0) (q := 0) (gI_0 h40 hn hw).1 (by omega)) rfl ⟨by decide, rfl⟩ rfl rfl (Nat.le_of_ble_eq_true rfl) ?_
  refine z_istore_n dX0_isSound_19 rfl (by decide) ?_
  show z_V _ _ _ _ _ _ _ _ _ [_, _, _] _ _
  refine z_iconst (v := 0) dX0_isSound_20 (by decide) ?_
  refine z_istore_n dX0_isSound_21 rfl (by decide) ?_
  show z_V _ _ _ _ _ _ _ _ _ [_, _, _] _ _
  exact isSound_loop 40 0 _ _ rch_01 (gI_rch (q := 0) (by omega) (gI_0 h40 hn hw)) (by omega) (by omega)
def insP (op x : Int32) : Prop := if op = 0 then (¬ x < -32768 ∧ ¬ nI 32767 < x) else if op = 1 ∨ op = nI 2 then (¬ x < 0 ∧ ¬ nI 6 ≤ x) else if op = nI 13 ∨ op = nI 14 then (¬ x < 0 ∧ ¬ nI 40 ≤ x) else (¬ op < 0 ∧ ¬ nI 15 < op)
def insB (op x : Int32) : Int32 := if op = 0 then b2i (¬ x < -32768 ∧ ¬ nI 32767 < x) else if op = 1 ∨ op = nI 2 then b2i (¬ x < 0 ∧ ¬ nI 6 ≤ x) else if op = nI 13 ∨ op = nI 14 then b2i (¬ x < 0 ∧ ¬ nI 40 ≤ x) else b2i (¬ op < 0 ∧ ¬ nI 15 < op)
theorem insB_eq {op x : Int32} (k : Nat) (hk : k < 15) (h : op = nI k) : insB op x = if k = 0 then b2i (¬ x < -32768 ∧ ¬ nI 32767 < x) else if k = 1 ∨ k = 2 then b2i (¬ x < 0 ∧ ¬ nI 6 ≤ x) else if k = 13 ∨ k = 14 then b2i (¬ x < 0 ∧ ¬ nI 40 ≤ x) else b2i (¬ nI k < 0 ∧ ¬ nI 15 < nI k) := by
  subst h
  unfold insB
  have e : ∀ j, j < 20 → (nI k = nI j ↔ k = j) := fun j hj => nI_eq (by omega) (by omega)
  rw [show (0 : Int32) = nI 0 from rfl, show (1 : Int32) = nI 1 from rfl]
  simp only [e 0 (by omega), e 1 (by omega), e 2 (by omega), e 13 (by omega), e 14 (by omega)]
theorem insB_out {op x : Int32} (h : op.toInt < 0 ∨ 14 < op.toInt) : insB op x = b2i (¬ op < 0 ∧ ¬ nI 15 < op) := by
  have hne : ∀ j, j < 15 → ¬ op = nI j := fun j hj q => by
    rw [q, nI_toInt (by omega)] at h
    omega
  unfold insB
  rw [if_neg (show ¬ op = 0 from hne 0 (by omega)), if_neg (fun z => z.elim (show ¬ op = 1 from hne 1 (by omega)) (hne 2 (by omega))), if_neg (fun z => z.elim (hne 13 (by omega)) (hne 14 (by omega)))]
set_option maxRecDepth 100000 in
set_option maxHeartbeats 4000000 in
theorem sp_isInstruction {d : Nat} {op x : Int32} {X : z_X} : z_MV M_X0_isInstruction d 0 0 [.int op, .int x] X (some (.int (insB op x))) X := by
  refine z_MV.of pn_X0_isInstruction (Nat.le_of_ble_eq_true rfl) (by simp [Value.category]) rfl ?_
  show z_V _ _ _ _ _ _ _ _ _ [_, _] _ _
  rcases Decidable.em (op.toInt < 0 ∨ 14 < op.toInt) with hout | hin
  · rw [insB_out hout]
    refine z_iload_n dX0_isInstruction_0 rfl rfl ?_
    refine z_tableOut (tgt := 128) dX0_isInstruction_1 hout (by decide) ?_
    refine z_iload_n dX0_isInstruction_128 rfl rfl ?_
    refine z_if_lt (tgt := 142) dX0_isInstruction_129 (by decide) (fun c129 => ?_) (fun c129 => ?_)
    · refine z_iconst (v := 0) dX0_isInstruction_142 (by decide) ?_
      exact z_zret dX0_isInstruction_143 rfl (by first | exact Or.inl rfl | exact Or.inr rfl) (by simp_all [b2i]) rfl
    · refine z_iload_n dX0_isInstruction_132 rfl rfl ?_
      refine z_bipush (v := nI 15) dX0_isInstruction_133 (by decide) ?_
      refine z_icmp_gt (tgt := 142) dX0_isInstruction_135 (by decide) (fun c135 => ?_) (fun c135 => ?_)
      · refine z_iconst (v := 0) dX0_isInstruction_142 (by decide) ?_
        exact z_zret dX0_isInstruction_143 rfl (by first | exact Or.inl rfl | exact Or.inr rfl) (by simp_all [b2i]) rfl
      · refine z_iconst (v := 1) dX0_isInstruction_138 (by decide) ?_
        refine z_goto (tgt := 143) dX0_isInstruction_139 (by decide) ?_
        exact z_zret dX0_isInstruction_143 rfl (by first | exact Or.inl rfl | exact Or.inr rfl) (by simp_all [b2i]) rfl
  · obtain ⟨k, hk, rfl⟩ : ∃ k : Nat, k < 15 ∧ op = nI k := ⟨op.toInt.toNat, by omega, Int32.toInt_inj.mp (by rw [nI_toInt (by omega)]; omega)⟩
    rw [insB_eq k hk rfl]
    rcases (show k = 0 ∨ k = 1 ∨ k = 2 ∨ k = 3 ∨ k = 4 ∨ k = 5 ∨ k = 6 ∨ k = 7 ∨ k = 8 ∨ k = 9 ∨ k = 10 ∨ k = 11 ∨ k = 12 ∨ k = 13 ∨ k = 14 by omega) with rfl | rfl | rfl | rfl | rfl | rfl | rfl | rfl | rfl | rfl | rfl | rfl | rfl | rfl | rfl
    · refine z_iload_n dX0_isInstruction_0 rfl rfl ?_
      refine z_tableIn (off := 75) (tgt := 76) dX0_isInstruction_1 (by decide) (by decide) (by decide) (by decide) ?_
      refine z_iload_n dX0_isInstruction_76 rfl rfl ?_
      refine z_sipush (v := (-32768)) dX0_isInstruction_77 (by decide) ?_
      refine z_icmp_lt (tgt := 94) dX0_isInstruction_80 (by decide) (fun c80 => ?_) (fun c80 => ?_)
      · refine z_iconst (v := 0) dX0_isInstruction_94 (by decide) ?_
        exact z_zret dX0_isInstruction_95 rfl (by first | exact Or.inl rfl | exact Or.inr rfl) (by simp_all [b2i]) rfl
      · refine z_iload_n dX0_isInstruction_83 rfl rfl ?_
        refine z_sipush (v := nI 32767) dX0_isInstruction_84 (by decide) ?_
        refine z_icmp_gt (tgt := 94) dX0_isInstruction_87 (by decide) (fun c87 => ?_) (fun c87 => ?_)
        · refine z_iconst (v := 0) dX0_isInstruction_94 (by decide) ?_
          exact z_zret dX0_isInstruction_95 rfl (by first | exact Or.inl rfl | exact Or.inr rfl) (by simp_all [b2i]) rfl
        · refine z_iconst (v := 1) dX0_isInstruction_90 (by decide) ?_
          refine z_goto (tgt := 95) dX0_isInstruction_91 (by decide) ?_
          exact z_zret dX0_isInstruction_95 rfl (by first | exact Or.inl rfl | exact Or.inr rfl) (by simp_all [b2i]) rfl
    · refine z_iload_n dX0_isInstruction_0 rfl rfl ?_
      refine z_tableIn (off := 95) (tgt := 96) dX0_isInstruction_1 (by decide) (by decide) (by decide) (by decide) ?_
      refine z_iload_n dX0_isInstruction_96 rfl rfl ?_
      refine z_if_lt (tgt := 110) dX0_isInstruction_97 (by decide) (fun c97 => ?_) (fun c97 => ?_)
      · refine z_iconst (v := 0) dX0_isInstruction_110 (by decide) ?_
        exact z_zret dX0_isInstruction_111 rfl (by first | exact Or.inl rfl | exact Or.inr rfl) (by simp_all [b2i]) rfl
      · refine z_iload_n dX0_isInstruction_100 rfl rfl ?_
        refine z_bipush (v := nI 6) dX0_isInstruction_101 (by decide) ?_
        refine z_icmp_ge (tgt := 110) dX0_isInstruction_103 (by decide) (fun c103 => ?_) (fun c103 => ?_)
        · refine z_iconst (v := 0) dX0_isInstruction_110 (by decide) ?_
          exact z_zret dX0_isInstruction_111 rfl (by first | exact Or.inl rfl | exact Or.inr rfl) (by simp_all [b2i]) rfl
        · refine z_iconst (v := 1) dX0_isInstruction_106 (by decide) ?_
          refine z_goto (tgt := 111) dX0_isInstruction_107 (by decide) ?_
          exact z_zret dX0_isInstruction_111 rfl (by first | exact Or.inl rfl | exact Or.inr rfl) (by simp_all [b2i]) rfl
    · refine z_iload_n dX0_isInstruction_0 rfl rfl ?_
      refine z_tableIn (off := 95) (tgt := 96) dX0_isInstruction_1 (by decide) (by decide) (by decide) (by decide) ?_
      refine z_iload_n dX0_isInstruction_96 rfl rfl ?_
      refine z_if_lt (tgt := 110) dX0_isInstruction_97 (by decide) (fun c97 => ?_) (fun c97 => ?_)
      · refine z_iconst (v := 0) dX0_isInstruction_110 (by decide) ?_
        exact z_zret dX0_isInstruction_111 rfl (by first | exact Or.inl rfl | exact Or.inr rfl) (by simp_all [b2i]) rfl
      · refine z_iload_n dX0_isInstruction_100 rfl rfl ?_
        refine z_bipush (v := nI 6) dX0_isInstruction_101 (by decide) ?_
        refine z_icmp_ge (tgt := 110) dX0_isInstruction_103 (by decide) (fun c103 => ?_) (fun c103 => ?_)
        · refine z_iconst (v := 0) dX0_isInstruction_110 (by decide) ?_
          exact z_zret dX0_isInstruction_111 rfl (by first | exact Or.inl rfl | exact Or.inr rfl) (by simp_all [b2i]) rfl
        · refine z_iconst (v := 1) dX0_isInstruction_106 (by decide) ?_
          refine z_goto (tgt := 111) dX0_isInstruction_107 (by decide) ?_
          exact z_zret dX0_isInstruction_111 rfl (by first | exact Or.inl rfl | exact Or.inr rfl) (by simp_all [b2i]) rfl
    · refine z_iload_n dX0_isInstruction_0 rfl rfl ?_
      refine z_tableIn (off := 127) (tgt := 128) dX0_isInstruction_1 (by decide) (by decide) (by decide) (by decide) ?_
      refine z_iload_n dX0_isInstruction_128 rfl rfl ?_
      refine z_if_lt (tgt := 142) dX0_isInstruction_129 (by decide) (fun c129 => ?_) (fun c129 => ?_)
      · refine z_iconst (v := 0) dX0_isInstruction_142 (by decide) ?_
        exact z_zret dX0_isInstruction_143 rfl (by first | exact Or.inl rfl | exact Or.inr rfl) (by simp_all [b2i]) rfl
      · refine z_iload_n dX0_isInstruction_132 rfl rfl ?_
        refine z_bipush (v := nI 15) dX0_isInstruction_133 (by decide) ?_
        refine z_icmp_gt (tgt := 142) dX0_isInstruction_135 (by decide) (fun c135 => ?_) (fun c135 => ?_)
        · refine z_iconst (v := 0) dX0_isInstruction_142 (by decide) ?_
          exact z_zret dX0_isInstruction_143 rfl (by first | exact Or.inl rfl | exact Or.inr rfl) (by simp_all [b2i]) rfl
        · refine z_iconst (v := 1) dX0_isInstruction_138 (by decide) ?_
          refine z_goto (tgt := 143) dX0_isInstruction_139 (by decide) ?_
          exact z_zret dX0_isInstruction_143 rfl (by first | exact Or.inl rfl | exact Or.inr rfl) (by simp_all [b2i]) rfl
    · refine z_iload_n dX0_isInstruction_0 rfl rfl ?_
      refine z_tableIn (off := 127) (tgt := 128) dX0_isInstruction_1 (by decide) (by decide) (by decide) (by decide) ?_
      refine z_iload_n dX0_isInstruction_128 rfl rfl ?_
      refine z_if_lt (tgt := 142) dX0_isInstruction_129 (by decide) (fun c129 => ?_) (fun c129 => ?_)
      · refine z_iconst (v := 0) dX0_isInstruction_142 (by decide) ?_
        exact z_zret dX0_isInstruction_143 rfl (by first | exact Or.inl rfl | exact Or.inr rfl) (by simp_all [b2i]) rfl
      · refine z_iload_n dX0_isInstruction_132 rfl rfl ?_
        refine z_bipush (v := nI 15) dX0_isInstruction_133 (by decide) ?_
        refine z_icmp_gt (tgt := 142) dX0_isInstruction_135 (by decide) (fun c135 => ?_) (fun c135 => ?_)
        · refine z_iconst (v := 0) dX0_isInstruction_142 (by decide) ?_
          exact z_zret dX0_isInstruction_143 rfl (by first | exact Or.inl rfl | exact Or.inr rfl) (by simp_all [b2i]) rfl
        · refine z_iconst (v := 1) dX0_isInstruction_138 (by decide) ?_
          refine z_goto (tgt := 143) dX0_isInstruction_139 (by decide) ?_
          exact z_zret dX0_isInstruction_143 rfl (by first | exact Or.inl rfl | exact Or.inr rfl) (by simp_all [b2i]) rfl
    · refine z_iload_n dX0_isInstruction_0 rfl rfl ?_
      refine z_tableIn (off := 127) (tgt := 128) dX0_isInstruction_1 (by decide) (by decide) (by decide) (by decide) ?_
      refine z_iload_n dX0_isInstruction_128 rfl rfl ?_
      refine z_if_lt (tgt := 142) dX0_isInstruction_129 (by decide) (fun c129 => ?_) (fun c129 => ?_)
      · refine z_iconst (v := 0) dX0_isInstruction_142 (by decide) ?_
        exact z_zret dX0_isInstruction_143 rfl (by first | exact Or.inl rfl | exact Or.inr rfl) (by simp_all [b2i]) rfl
      · refine z_iload_n dX0_isInstruction_132 rfl rfl ?_
        refine z_bipush (v := nI 15) dX0_isInstruction_133 (by decide) ?_
        refine z_icmp_gt (tgt := 142) dX0_isInstruction_135 (by decide) (fun c135 => ?_) (fun c135 => ?_)
        · refine z_iconst (v := 0) dX0_isInstruction_142 (by decide) ?_
          exact z_zret dX0_isInstruction_143 rfl (by first | exact Or.inl rfl | exact Or.inr rfl) (by simp_all [b2i]) rfl
        · refine z_iconst (v := 1) dX0_isInstruction_138 (by decide) ?_
          refine z_goto (tgt := 143) dX0_isInstruction_139 (by decide) ?_
          exact z_zret dX0_isInstruction_143 rfl (by first | exact Or.inl rfl | exact Or.inr rfl) (by simp_all [b2i]) rfl
    · refine z_iload_n dX0_isInstruction_0 rfl rfl ?_
      refine z_tableIn (off := 127) (tgt := 128) dX0_isInstruction_1 (by decide) (by decide) (by decide) (by decide) ?_
      refine z_iload_n dX0_isInstruction_128 rfl rfl ?_
      refine z_if_lt (tgt := 142) dX0_isInstruction_129 (by decide) (fun c129 => ?_) (fun c129 => ?_)
      · refine z_iconst (v := 0) dX0_isInstruction_142 (by decide) ?_
        exact z_zret dX0_isInstruction_143 rfl (by first | exact Or.inl rfl | exact Or.inr rfl) (by simp_all [b2i]) rfl
      · refine z_iload_n dX0_isInstruction_132 rfl rfl ?_
        refine z_bipush (v := nI 15) dX0_isInstruction_133 (by decide) ?_
        refine z_icmp_gt (tgt := 142) dX0_isInstruction_135 (by decide) (fun c135 => ?_) (fun c135 => ?_)
        · refine z_iconst (v := 0) dX0_isInstruction_142 (by decide) ?_
          exact z_zret dX0_isInstruction_143 rfl (by first | exact Or.inl rfl | exact Or.inr rfl) (by simp_all [b2i]) rfl
        · refine z_iconst (v := 1) dX0_isInstruction_138 (by decide) ?_
          refine z_goto (tgt := 143) dX0_isInstruction_139 (by decide) ?_
          exact z_zret dX0_isInstruction_143 rfl (by first | exact Or.inl rfl | exact Or.inr rfl) (by simp_all [b2i]) rfl
    · refine z_iload_n dX0_isInstruction_0 rfl rfl ?_
      refine z_tableIn (off := 127) (tgt := 128) dX0_isInstruction_1 (by decide) (by decide) (by decide) (by decide) ?_
      refine z_iload_n dX0_isInstruction_128 rfl rfl ?_
      refine z_if_lt (tgt := 142) dX0_isInstruction_129 (by decide) (fun c129 => ?_) (fun c129 => ?_)
      · refine z_iconst (v := 0) dX0_isInstruction_142 (by decide) ?_
        exact z_zret dX0_isInstruction_143 rfl (by first | exact Or.inl rfl | exact Or.inr rfl) (by simp_all [b2i]) rfl
      · refine z_iload_n dX0_isInstruction_132 rfl rfl ?_
        refine z_bipush (v := nI 15) dX0_isInstruction_133 (by decide) ?_
        refine z_icmp_gt (tgt := 142) dX0_isInstruction_135 (by decide) (fun c135 => ?_) (fun c135 => ?_)
        · refine z_iconst (v := 0) dX0_isInstruction_142 (by decide) ?_
          exact z_zret dX0_isInstruction_143 rfl (by first | exact Or.inl rfl | exact Or.inr rfl) (by simp_all [b2i]) rfl
        · refine z_iconst (v := 1) dX0_isInstruction_138 (by decide) ?_
          refine z_goto (tgt := 143) dX0_isInstruction_139 (by decide) ?_
          exact z_zret dX0_isInstruction_143 rfl (by first | exact Or.inl rfl | exact Or.inr rfl) (by simp_all [b2i]) rfl
    · refine z_iload_n dX0_isInstruction_0 rfl rfl ?_
      refine z_tableIn (off := 127) (tgt := 128) dX0_isInstruction_1 (by decide) (by decide) (by decide) (by decide) ?_
      refine z_iload_n dX0_isInstruction_128 rfl rfl ?_
      refine z_if_lt (tgt := 142) dX0_isInstruction_129 (by decide) (fun c129 => ?_) (fun c129 => ?_)
      · refine z_iconst (v := 0) dX0_isInstruction_142 (by decide) ?_
        exact z_zret dX0_isInstruction_143 rfl (by first | exact Or.inl rfl | exact Or.inr rfl) (by simp_all [b2i]) rfl
      · refine z_iload_n dX0_isInstruction_132 rfl rfl ?_
        refine z_bipush (v := nI 15) dX0_isInstruction_133 (by decide) ?_
        refine z_icmp_gt (tgt := 142) dX0_isInstruction_135 (by decide) (fun c135 => ?_) (fun c135 => ?_)
        · refine z_iconst (v := 0) dX0_isInstruction_142 (by decide) ?_
          exact z_zret dX0_isInstruction_143 rfl (by first | exact Or.inl rfl | exact Or.inr rfl) (by simp_all [b2i]) rfl
        · refine z_iconst (v := 1) dX0_isInstruction_138 (by decide) ?_
          refine z_goto (tgt := 143) dX0_isInstruction_139 (by decide) ?_
          exact z_zret dX0_isInstruction_143 rfl (by first | exact Or.inl rfl | exact Or.inr rfl) (by simp_all [b2i]) rfl
    · refine z_iload_n dX0_isInstruction_0 rfl rfl ?_
      refine z_tableIn (off := 127) (tgt := 128) dX0_isInstruction_1 (by decide) (by decide) (by decide) (by decide) ?_
      refine z_iload_n dX0_isInstruction_128 rfl rfl ?_
      refine z_if_lt (tgt := 142) dX0_isInstruction_129 (by decide) (fun c129 => ?_) (fun c129 => ?_)
      · refine z_iconst (v := 0) dX0_isInstruction_142 (by decide) ?_
        exact z_zret dX0_isInstruction_143 rfl (by first | exact Or.inl rfl | exact Or.inr rfl) (by simp_all [b2i]) rfl
      · refine z_iload_n dX0_isInstruction_132 rfl rfl ?_
        refine z_bipush (v := nI 15) dX0_isInstruction_133 (by decide) ?_
        refine z_icmp_gt (tgt := 142) dX0_isInstruction_135 (by decide) (fun c135 => ?_) (fun c135 => ?_)
        · refine z_iconst (v := 0) dX0_isInstruction_142 (by decide) ?_
          exact z_zret dX0_isInstruction_143 rfl (by first | exact Or.inl rfl | exact Or.inr rfl) (by simp_all [b2i]) rfl
        · refine z_iconst (v := 1) dX0_isInstruction_138 (by decide) ?_
          refine z_goto (tgt := 143) dX0_isInstruction_139 (by decide) ?_
          exact z_zret dX0_isInstruction_143 rfl (by first | exact Or.inl rfl | exact Or.inr rfl) (by simp_all [b2i]) rfl
    · refine z_iload_n dX0_isInstruction_0 rfl rfl ?_
      refine z_tableIn (off := 127) (tgt := 128) dX0_isInstruction_1 (by decide) (by decide) (by decide) (by decide) ?_
      refine z_iload_n dX0_isInstruction_128 rfl rfl ?_
      refine z_if_lt (tgt := 142) dX0_isInstruction_129 (by decide) (fun c129 => ?_) (fun c129 => ?_)
      · refine z_iconst (v := 0) dX0_isInstruction_142 (by decide) ?_
        exact z_zret dX0_isInstruction_143 rfl (by first | exact Or.inl rfl | exact Or.inr rfl) (by simp_all [b2i]) rfl
      · refine z_iload_n dX0_isInstruction_132 rfl rfl ?_
        refine z_bipush (v := nI 15) dX0_isInstruction_133 (by decide) ?_
        refine z_icmp_gt (tgt := 142) dX0_isInstruction_135 (by decide) (fun c135 => ?_) (fun c135 => ?_)
        · refine z_iconst (v := 0) dX0_isInstruction_142 (by decide) ?_
          exact z_zret dX0_isInstruction_143 rfl (by first | exact Or.inl rfl | exact Or.inr rfl) (by simp_all [b2i]) rfl
        · refine z_iconst (v := 1) dX0_isInstruction_138 (by decide) ?_
          refine z_goto (tgt := 143) dX0_isInstruction_139 (by decide) ?_
          exact z_zret dX0_isInstruction_143 rfl (by first | exact Or.inl rfl | exact Or.inr rfl) (by simp_all [b2i]) rfl
    · refine z_iload_n dX0_isInstruction_0 rfl rfl ?_
      refine z_tableIn (off := 127) (tgt := 128) dX0_isInstruction_1 (by decide) (by decide) (by decide) (by decide) ?_
      refine z_iload_n dX0_isInstruction_128 rfl rfl ?_
      refine z_if_lt (tgt := 142) dX0_isInstruction_129 (by decide) (fun c129 => ?_) (fun c129 => ?_)
      · refine z_iconst (v := 0) dX0_isInstruction_142 (by decide) ?_
        exact z_zret dX0_isInstruction_143 rfl (by first | exact Or.inl rfl | exact Or.inr rfl) (by simp_all [b2i]) rfl
      · refine z_iload_n dX0_isInstruction_132 rfl rfl ?_
        refine z_bipush (v := nI 15) dX0_isInstruction_133 (by decide) ?_
        refine z_icmp_gt (tgt := 142) dX0_isInstruction_135 (by decide) (fun c135 => ?_) (fun c135 => ?_)
        · refine z_iconst (v := 0) dX0_isInstruction_142 (by decide) ?_
          exact z_zret dX0_isInstruction_143 rfl (by first | exact Or.inl rfl | exact Or.inr rfl) (by simp_all [b2i]) rfl
        · refine z_iconst (v := 1) dX0_isInstruction_138 (by decide) ?_
          refine z_goto (tgt := 143) dX0_isInstruction_139 (by decide) ?_
          exact z_zret dX0_isInstruction_143 rfl (by first | exact Or.inl rfl | exact Or.inr rfl) (by simp_all [b2i]) rfl
    · refine z_iload_n dX0_isInstruction_0 rfl rfl ?_
      refine z_tableIn (off := 127) (tgt := 128) dX0_isInstruction_1 (by decide) (by decide) (by decide) (by decide) ?_
      refine z_iload_n dX0_isInstruction_128 rfl rfl ?_
      refine z_if_lt (tgt := 142) dX0_isInstruction_129 (by decide) (fun c129 => ?_) (fun c129 => ?_)
      · refine z_iconst (v := 0) dX0_isInstruction_142 (by decide) ?_
        exact z_zret dX0_isInstruction_143 rfl (by first | exact Or.inl rfl | exact Or.inr rfl) (by simp_all [b2i]) rfl
      · refine z_iload_n dX0_isInstruction_132 rfl rfl ?_
        refine z_bipush (v := nI 15) dX0_isInstruction_133 (by decide) ?_
        refine z_icmp_gt (tgt := 142) dX0_isInstruction_135 (by decide) (fun c135 => ?_) (fun c135 => ?_)
        · refine z_iconst (v := 0) dX0_isInstruction_142 (by decide) ?_
          exact z_zret dX0_isInstruction_143 rfl (by first | exact Or.inl rfl | exact Or.inr rfl) (by simp_all [b2i]) rfl
        · refine z_iconst (v := 1) dX0_isInstruction_138 (by decide) ?_
          refine z_goto (tgt := 143) dX0_isInstruction_139 (by decide) ?_
          exact z_zret dX0_isInstruction_143 rfl (by first | exact Or.inl rfl | exact Or.inr rfl) (by simp_all [b2i]) rfl
    · refine z_iload_n dX0_isInstruction_0 rfl rfl ?_
      refine z_tableIn (off := 111) (tgt := 112) dX0_isInstruction_1 (by decide) (by decide) (by decide) (by decide) ?_
      refine z_iload_n dX0_isInstruction_112 rfl rfl ?_
      refine z_if_lt (tgt := 126) dX0_isInstruction_113 (by decide) (fun c113 => ?_) (fun c113 => ?_)
      · refine z_iconst (v := 0) dX0_isInstruction_126 (by decide) ?_
        exact z_zret dX0_isInstruction_127 rfl (by first | exact Or.inl rfl | exact Or.inr rfl) (by simp_all [b2i]) rfl
      · refine z_iload_n dX0_isInstruction_116 rfl rfl ?_
        refine z_bipush (v := nI 40) dX0_isInstruction_117 (by decide) ?_
        refine z_icmp_ge (tgt := 126) dX0_isInstruction_119 (by decide) (fun c119 => ?_) (fun c119 => ?_)
        · refine z_iconst (v := 0) dX0_isInstruction_126 (by decide) ?_
          exact z_zret dX0_isInstruction_127 rfl (by first | exact Or.inl rfl | exact Or.inr rfl) (by simp_all [b2i]) rfl
        · refine z_iconst (v := 1) dX0_isInstruction_122 (by decide) ?_
          refine z_goto (tgt := 127) dX0_isInstruction_123 (by decide) ?_
          exact z_zret dX0_isInstruction_127 rfl (by first | exact Or.inl rfl | exact Or.inr rfl) (by simp_all [b2i]) rfl
    · refine z_iload_n dX0_isInstruction_0 rfl rfl ?_
      refine z_tableIn (off := 111) (tgt := 112) dX0_isInstruction_1 (by decide) (by decide) (by decide) (by decide) ?_
      refine z_iload_n dX0_isInstruction_112 rfl rfl ?_
      refine z_if_lt (tgt := 126) dX0_isInstruction_113 (by decide) (fun c113 => ?_) (fun c113 => ?_)
      · refine z_iconst (v := 0) dX0_isInstruction_126 (by decide) ?_
        exact z_zret dX0_isInstruction_127 rfl (by first | exact Or.inl rfl | exact Or.inr rfl) (by simp_all [b2i]) rfl
      · refine z_iload_n dX0_isInstruction_116 rfl rfl ?_
        refine z_bipush (v := nI 40) dX0_isInstruction_117 (by decide) ?_
        refine z_icmp_ge (tgt := 126) dX0_isInstruction_119 (by decide) (fun c119 => ?_) (fun c119 => ?_)
        · refine z_iconst (v := 0) dX0_isInstruction_126 (by decide) ?_
          exact z_zret dX0_isInstruction_127 rfl (by first | exact Or.inl rfl | exact Or.inr rfl) (by simp_all [b2i]) rfl
        · refine z_iconst (v := 1) dX0_isInstruction_122 (by decide) ?_
          refine z_goto (tgt := 127) dX0_isInstruction_123 (by decide) ?_
          exact z_zret dX0_isInstruction_127 rfl (by first | exact Or.inl rfl | exact Or.inr rfl) (by simp_all [b2i]) rfl
