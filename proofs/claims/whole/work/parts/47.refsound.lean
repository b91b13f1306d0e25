/-! PART 47: TraceTierModel.sound -/
def rlB (σ : Nat → Nat → Int32) (n a o : Nat) (b : Int32) : Int32 × (Nat → Nat → Int32) :=
  if o = 13 then rld σ n (tN (σ 94 a)) b
  else if o = 14 then (if (rld σ n (tN (σ 94 a)) b).1 = 0 then rld σ n (tN (σ 94 a)) b else rld (rld σ n (tN (σ 94 a)) b).2 n (a + 1) b)
  else if o = 15 then (1, σ) else rld σ n (a + 1) b
def rlw (σ : Nat → Nat → Int32) (n a : Nat) : Int32 × (Nat → Nat → Int32) :=
  if σ 95 a < 0 then (1, σ)
  else if tN (σ 95 a) < tk (tN (σ 93 a)) ∨ 6 < tN (σ 95 a) - tk (tN (σ 93 a)) + gv (tN (σ 93 a)) then (0, σ)
  else rlB σ n a (tN (σ 93 a)) (nI (tN (σ 95 a) - tk (tN (σ 93 a)) + gv (tN (σ 93 a))))
def wfR (σ : Nat → Nat → Int32) (n : Nat) : Prop := ∀ a, a < n → ∃ o, o < 16 ∧ σ 93 a = nI o ∧ (o = 13 ∨ o = 14 → ∃ l, l < 40 ∧ σ 94 a = nI l)
def rgI (σ : Nat → Nat → Int32) (n : Nat) : Prop := n ≤ 40 ∧ σ 92 1 = nI n ∧ wfR σ n ∧ ∀ a, a < n → σ 95 a = -1 ∨ ∃ q, q ≤ 6 ∧ σ 95 a = nI q
theorem rld_ne {σ : Nat → Nat → Int32} {n a b : Nat} {q : Int32} (h : b ≠ 95) : (rld σ n a q).2 b = σ b := by
  unfold rld
  split
  · rfl
  · exact z_up_ne _ _ _ h
theorem rgI_rld {σ : Nat → Nat → Int32} {n a q : Nat} (hq : q ≤ 6) (h : rgI σ n) : rgI (rld σ n a (nI q)).2 n := by
  obtain ⟨h1, h2, h3, h4⟩ := h
  refine ⟨h1, by rw [rld_ne (by decide)]; exact h2, by unfold wfR; rw [rld_ne (by decide), rld_ne (by decide)]; exact h3, ?_⟩
  unfold rld
  split
  · exact h4
  · intro a' ha'
    by_cases haa : a' = a
    · subst haa
      exact Or.inr ⟨q, hq, by simp [z_up]⟩
    · rcases h4 a' ha' with z | ⟨q', g1, g2⟩
      · exact Or.inl (by simp [z_up, haa, z])
      · exact Or.inr ⟨q', g1, by simp [z_up, haa, g2]⟩
theorem rld_01 {σ : Nat → Nat → Int32} {n a : Nat} {q : Int32} : (rld σ n a q).1 = 0 ∨ (rld σ n a q).1 = 1 := by
  unfold rld
  split
  · exact Or.inl rfl
  · exact Or.inr rfl
theorem rgI_lw {σ : Nat → Nat → Int32} {n a : Nat} (ha : a < n) (h : rgI σ n) : rgI (rlw σ n a).2 n := by
  obtain ⟨o, ho16, ho, -⟩ := h.2.2.1 a ha
  unfold rlw
  split
  · exact h
  next hlt =>
    rcases h.2.2.2 a ha with z | ⟨q, hq6, hq⟩
    · rw [z] at hlt; exact absurd (by decide) hlt
    · rw [hq, ho, tN_nI (by omega), tN_nI (by omega)]
      split
      · exact h
      · unfold rlB
        split
        · exact rgI_rld (by omega) h
        · split
          · split
            · exact rgI_rld (by omega) h
            · exact rgI_rld (by omega) (rgI_rld (by omega) h)
          · split
            · exact h
            · exact rgI_rld (by omega) h
theorem rlw_01 {σ : Nat → Nat → Int32} {n a : Nat} : (rlw σ n a).1 = 0 ∨ (rlw σ n a).1 = 1 := by
  unfold rlw
  split
  · exact Or.inr rfl
  · split
    · exact Or.inl rfl
    · unfold rlB
      split
      · exact rld_01
      · split
        · split
          · exact rld_01
          · exact rld_01
        · split
          · exact Or.inr rfl
          · exact rld_01
def rsI (n : Nat) : Nat → Nat → Int32 → (Nat → Nat → Int32) → Int32 × (Nat → Nat → Int32)
  | 0, _, g, σ => (g, σ)
  | m + 1, k, g, σ => if g = 0 then (g, σ) else rsI n m (k + 1) (rlw σ n k).1 (rlw σ n k).2
def rsO (n : Nat) : Nat → Int32 → (Nat → Nat → Int32) → Int32 × (Nat → Nat → Int32)
  | 0, g, σ => (g, σ)
  | m + 1, g, σ => rsO n m (rsI n n 0 g σ).1 (rsI n n 0 g σ).2
def rs0 (σ : Nat → Nat → Int32) : Nat → Nat → Int32 := rowF σ 95 (fun _ => -1) 40
def rsnd (σ : Nat → Nat → Int32) (n : Nat) : Int32 × (Nat → Nat → Int32) := rsO n n (rld (rs0 σ) n 0 0).1 (rld (rs0 σ) n 0 0).2
set_option maxRecDepth 100000 in
set_option maxHeartbeats 4000000 in
theorem rs_bN {d : Nat} {σ : Nat → Nat → Int32} {τ : Nat → Nat → Int64} {n k o q : Nat} {r : Option Value} {X1 : z_X} {w2 : Int32} {w4 w5 : Option Value} (h40 : n ≤ 40) (hn : σ 92 1 = nI n) (hk : k < n) (ho : σ 93 k = nI o) (ho16 : o < 16) (hneg : σ 95 k < 0) (K : ∀ w4 w5 : Option Value, z_V M_X11_sound (d + 2) 0 0 0 0 r X1 175 [some (.ref 92), some (.int 1), some (.int w2), some (.int (nI k)), w4, w5] [] (124, z_r0, σ, τ)) : z_V M_X11_sound (d + 2) 0 0 0 0 r X1 52 [some (.ref 92), some (.int 1), some (.int w2), some (.int (nI k)), w4, w5] [] (124, z_r0, σ, τ) := by
  refine z_aload_n dX11_sound_52 rfl rfl ?_
  refine z_getR dX11_sound_53 fl_X11_7 rfl rfl rfl ?_
  refine z_iload_n dX11_sound_56 rfl rfl ?_
  refine z_iald dX11_sound_57 rfl rfl (by omega) ho ?_
  refine z_istore dX11_sound_58 (by decide) ?_
  show z_V _ _ _ _ _ _ _ _ _ [_, _, _, _, _, _] _ _
  refine z_aload_n dX11_sound_60 rfl rfl ?_
  refine z_getR dX11_sound_61 fl_X11_16 rfl rfl rfl ?_
  refine z_iload_n dX11_sound_64 rfl rfl ?_
  refine z_iald dX11_sound_65 rfl rfl (by omega) rfl ?_
  refine z_iload dX11_sound_66 rfl ?_
  refine z_cS1 dX11_sound_68 ml_X11_133 (sp_rtakes (by exact ho16)) rfl rfl (Nat.le_of_ble_eq_true rfl) ?_
  refine z_isub dX11_sound_71 rfl ?_
  refine z_iload dX11_sound_72 rfl ?_
  refine z_cS1 dX11_sound_74 ml_X11_136 (sp_rleaves (by exact ho16)) rfl rfl (Nat.le_of_ble_eq_true rfl) ?_
  refine z_iadd dX11_sound_77 rfl ?_
  refine z_istore dX11_sound_78 (by decide) ?_
  show z_V _ _ _ _ _ _ _ _ _ [_, _, _, _, _, _] _ _
  refine z_aload_n dX11_sound_80 rfl rfl ?_
  refine z_getR dX11_sound_81 fl_X11_16 rfl rfl rfl ?_
  refine z_iload_n dX11_sound_84 rfl rfl ?_
  refine z_iald dX11_sound_85 rfl rfl (by omega) rfl ?_
  refine z_if_lt (tgt := 175) dX11_sound_86 (by decide) (fun _ => ?_) (fun c_ => absurd (hneg) c_)
  exact K _ _
set_option maxRecDepth 100000 in
set_option maxHeartbeats 4000000 in
theorem rs_bU {d : Nat} {σ : Nat → Nat → Int32} {τ : Nat → Nat → Int64} {n k o q : Nat} {r : Option Value} {X1 : z_X} {w2 : Int32} {w4 w5 : Option Value} (h40 : n ≤ 40) (hn : σ 92 1 = nI n) (hk : k < n) (ho : σ 93 k = nI o) (ho16 : o < 16) (hq : σ 95 k = nI q) (hq6 : q ≤ 6) (hu : q < tk o) (K : ∀ w4 w5 : Option Value, z_V M_X11_sound (d + 2) 0 0 0 0 r X1 175 [some (.ref 92), some (.int 0), some (.int w2), some (.int (nI k)), w4, w5] [] (124, z_r0, σ, τ)) : z_V M_X11_sound (d + 2) 0 0 0 0 r X1 52 [some (.ref 92), some (.int 1), some (.int w2), some (.int (nI k)), w4, w5] [] (124, z_r0, σ, τ) := by
  have ht2 := tk_2 o (by exact ho16)
  refine z_aload_n dX11_sound_52 rfl rfl ?_
  refine z_getR dX11_sound_53 fl_X11_7 rfl rfl rfl ?_
  refine z_iload_n dX11_sound_56 rfl rfl ?_
  refine z_iald dX11_sound_57 rfl rfl (by omega) ho ?_
  refine z_istore dX11_sound_58 (by decide) ?_
  show z_V _ _ _ _ _ _ _ _ _ [_, _, _, _, _, _] _ _
  refine z_aload_n dX11_sound_60 rfl rfl ?_
  refine z_getR dX11_sound_61 fl_X11_16 rfl rfl rfl ?_
  refine z_iload_n dX11_sound_64 rfl rfl ?_
  refine z_iald dX11_sound_65 rfl rfl (by omega) hq ?_
  refine z_iload dX11_sound_66 rfl ?_
  refine z_cS1 dX11_sound_68 ml_X11_133 (sp_rtakes (by exact ho16)) rfl rfl (Nat.le_of_ble_eq_true rfl) ?_
  refine z_isub dX11_sound_71 rfl ?_
  refine z_iload dX11_sound_72 rfl ?_
  refine z_cS1 dX11_sound_74 ml_X11_136 (sp_rleaves (by exact ho16)) rfl rfl (Nat.le_of_ble_eq_true rfl) ?_
  refine z_iadd dX11_sound_77 rfl ?_
  refine z_istore dX11_sound_78 (by decide) ?_
  show z_V _ _ _ _ _ _ _ _ _ [_, _, _, _, _, _] _ _
  refine z_aload_n dX11_sound_80 rfl rfl ?_
  refine z_getR dX11_sound_81 fl_X11_16 rfl rfl rfl ?_
  refine z_iload_n dX11_sound_84 rfl rfl ?_
  refine z_iald dX11_sound_85 rfl rfl (by omega) hq ?_
  refine z_if_lt (tgt := 175) dX11_sound_86 (by decide) (fun c_ => absurd c_ (nI_pos (by omega))) (fun _ => ?_)
  refine z_aload_n dX11_sound_89 rfl rfl ?_
  refine z_getR dX11_sound_90 fl_X11_16 rfl rfl rfl ?_
  refine z_iload_n dX11_sound_93 rfl rfl ?_
  refine z_iald dX11_sound_94 rfl rfl (by omega) hq ?_
  refine z_iload dX11_sound_95 rfl ?_
  refine z_cS1 dX11_sound_97 ml_X11_133 (sp_rtakes (by exact ho16)) rfl rfl (Nat.le_of_ble_eq_true rfl) ?_
  refine z_icmp_lt (tgt := 114) dX11_sound_100 (by decide) (fun _ => ?_) (fun c_ => absurd (nI_lt hu (by omega)) c_)
  refine z_iconst (v := 0) dX11_sound_114 (by decide) ?_
  refine z_istore_n dX11_sound_115 rfl (by decide) ?_
  show z_V _ _ _ _ _ _ _ _ _ [_, _, _, _, _, _] _ _
  refine z_iload_n dX11_sound_116 rfl rfl ?_
  refine z_if_eq (tgt := 147) dX11_sound_117 (by decide) (fun _ => ?_) (fun c_ => absurd (by decide +kernel) c_)
  refine z_iload_n dX11_sound_147 rfl rfl ?_
  refine z_if_eq (tgt := 175) dX11_sound_148 (by decide) (fun _ => ?_) (fun c_ => absurd (by decide +kernel) c_)
  exact K _ _
set_option maxRecDepth 100000 in
set_option maxHeartbeats 4000000 in
theorem rs_bO {d : Nat} {σ : Nat → Nat → Int32} {τ : Nat → Nat → Int64} {n k o q : Nat} {r : Option Value} {X1 : z_X} {w2 : Int32} {w4 w5 : Option Value} (h40 : n ≤ 40) (hn : σ 92 1 = nI n) (hk : k < n) (ho : σ 93 k = nI o) (ho16 : o < 16) (hq : σ 95 k = nI q) (hq6 : q ≤ 6) (hu : tk o ≤ q) (hv : 6 < q - tk o + gv o) (K : ∀ w4 w5 : Option Value, z_V M_X11_sound (d + 2) 0 0 0 0 r X1 175 [some (.ref 92), some (.int 0), some (.int w2), some (.int (nI k)), w4, w5] [] (124, z_r0, σ, τ)) : z_V M_X11_sound (d + 2) 0 0 0 0 r X1 52 [some (.ref 92), some (.int 1), some (.int w2), some (.int (nI k)), w4, w5] [] (124, z_r0, σ, τ) := by
  have ht2 := tk_2 o (by exact ho16)
  refine z_aload_n dX11_sound_52 rfl rfl ?_
  refine z_getR dX11_sound_53 fl_X11_7 rfl rfl rfl ?_
  refine z_iload_n dX11_sound_56 rfl rfl ?_
  refine z_iald dX11_sound_57 rfl rfl (by omega) ho ?_
  refine z_istore dX11_sound_58 (by decide) ?_
  show z_V _ _ _ _ _ _ _ _ _ [_, _, _, _, _, _] _ _
  refine z_aload_n dX11_sound_60 rfl rfl ?_
  refine z_getR dX11_sound_61 fl_X11_16 rfl rfl rfl ?_
  refine z_iload_n dX11_sound_64 rfl rfl ?_
  refine z_iald dX11_sound_65 rfl rfl (by omega) hq ?_
  refine z_iload dX11_sound_66 rfl ?_
  refine z_cS1 dX11_sound_68 ml_X11_133 (sp_rtakes (by exact ho16)) rfl rfl (Nat.le_of_ble_eq_true rfl) ?_
  refine z_isub dX11_sound_71 (pk_sub hu) ?_
  refine z_iload dX11_sound_72 rfl ?_
  refine z_cS1 dX11_sound_74 ml_X11_136 (sp_rleaves (by exact ho16)) rfl rfl (Nat.le_of_ble_eq_true rfl) ?_
  refine z_iadd dX11_sound_77 (nI_add _ _) ?_
  refine z_istore dX11_sound_78 (by decide) ?_
  show z_V _ _ _ _ _ _ _ _ _ [_, _, _, _, _, _] _ _
  refine z_aload_n dX11_sound_80 rfl rfl ?_
  refine z_getR dX11_sound_81 fl_X11_16 rfl rfl rfl ?_
  refine z_iload_n dX11_sound_84 rfl rfl ?_
  refine z_iald dX11_sound_85 rfl rfl (by omega) hq ?_
  refine z_if_lt (tgt := 175) dX11_sound_86 (by decide) (fun c_ => absurd c_ (nI_pos (by omega))) (fun _ => ?_)
  refine z_aload_n dX11_sound_89 rfl rfl ?_
  refine z_getR dX11_sound_90 fl_X11_16 rfl rfl rfl ?_
  refine z_iload_n dX11_sound_93 rfl rfl ?_
  refine z_iald dX11_sound_94 rfl rfl (by omega) hq ?_
  refine z_iload dX11_sound_95 rfl ?_
  refine z_cS1 dX11_sound_97 ml_X11_133 (sp_rtakes (by exact ho16)) rfl rfl (Nat.le_of_ble_eq_true rfl) ?_
  refine z_icmp_lt (tgt := 114) dX11_sound_100 (by decide) (fun c_ => absurd c_ (nI_nlt hu (by omega))) (fun _ => ?_)
  refine z_iload dX11_sound_103 rfl ?_
  refine z_bipush (v := nI 6) dX11_sound_105 (by decide) ?_
  refine z_icmp_gt (tgt := 114) dX11_sound_107 (by decide) (fun _ => ?_) (fun c_ => absurd (nI_lt hv (by omega)) c_)
  refine z_iconst (v := 0) dX11_sound_114 (by decide) ?_
  refine z_istore_n dX11_sound_115 rfl (by decide) ?_
  show z_V _ _ _ _ _ _ _ _ _ [_, _, _, _, _, _] _ _
  refine z_iload_n dX11_sound_116 rfl rfl ?_
  refine z_if_eq (tgt := 147) dX11_sound_117 (by decide) (fun _ => ?_) (fun c_ => absurd (by decide +kernel) c_)
  refine z_iload_n dX11_sound_147 rfl rfl ?_
  refine z_if_eq (tgt := 175) dX11_sound_148 (by decide) (fun _ => ?_) (fun c_ => absurd (by decide +kernel) c_)
  exact K _ _
set_option maxRecDepth 100000 in
set_option maxHeartbeats 4000000 in
theorem rs_bG {d : Nat} {σ : Nat → Nat → Int32} {τ : Nat → Nat → Int64} {n k o q : Nat} {r : Option Value} {X1 : z_X} {w2 : Int32} {w4 w5 : Option Value} (h40 : n ≤ 40) (hn : σ 92 1 = nI n) (hk : k < n) (ho : σ 93 k = nI o) (ho16 : o < 16) (hq : σ 95 k = nI q) (hq6 : q ≤ 6) (hu : tk o ≤ q) (hv : q - tk o + gv o ≤ 6) (h13 : o ≠ 13) (h14 : o ≠ 14) (h15 : o ≠ 15) (K : ∀ w4 w5 : Option Value, z_V M_X11_sound (d + 2) 0 0 0 0 r X1 175 [some (.ref 92), some (.int (rld σ n (k + 1) (nI (q - tk o + gv o))).1), some (.int w2), some (.int (nI k)), w4, w5] [] (124, z_r0, (rld σ n (k + 1) (nI (q - tk o + gv o))).2, τ)) : z_V M_X11_sound (d + 2) 0 0 0 0 r X1 52 [some (.ref 92), some (.int 1), some (.int w2), some (.int (nI k)), w4, w5] [] (124, z_r0, σ, τ) := by
  have ht2 := tk_2 o (by exact ho16)
  refine z_aload_n dX11_sound_52 rfl rfl ?_
  refine z_getR dX11_sound_53 fl_X11_7 rfl rfl rfl ?_
  refine z_iload_n dX11_sound_56 rfl rfl ?_
  refine z_iald dX11_sound_57 rfl rfl (by omega) ho ?_
  refine z_istore dX11_sound_58 (by decide) ?_
  show z_V _ _ _ _ _ _ _ _ _ [_, _, _, _, _, _] _ _
  refine z_aload_n dX11_sound_60 rfl rfl ?_
  refine z_getR dX11_sound_61 fl_X11_16 rfl rfl rfl ?_
  refine z_iload_n dX11_sound_64 rfl rfl ?_
  refine z_iald dX11_sound_65 rfl rfl (by omega) hq ?_
  refine z_iload dX11_sound_66 rfl ?_
  refine z_cS1 dX11_sound_68 ml_X11_133 (sp_rtakes (by exact ho16)) rfl rfl (Nat.le_of_ble_eq_true rfl) ?_
  refine z_isub dX11_sound_71 (pk_sub hu) ?_
  refine z_iload dX11_sound_72 rfl ?_
  refine z_cS1 dX11_sound_74 ml_X11_136 (sp_rleaves (by exact ho16)) rfl rfl (Nat.le_of_ble_eq_true rfl) ?_
  refine z_iadd dX11_sound_77 (nI_add _ _) ?_
  refine z_istore dX11_sound_78 (by decide) ?_
  show z_V _ _ _ _ _ _ _ _ _ [_, _, _, _, _, _] _ _
  refine z_aload_n dX11_sound_80 rfl rfl ?_
  refine z_getR dX11_sound_81 fl_X11_16 rfl rfl rfl ?_
  refine z_iload_n dX11_sound_84 rfl rfl ?_
  refine z_iald dX11_sound_85 rfl rfl (by omega) hq ?_
  refine z_if_lt (tgt := 175) dX11_sound_86 (by decide) (fun c_ => absurd c_ (nI_pos (by omega))) (fun _ => ?_)
  refine z_aload_n dX11_sound_89 rfl rfl ?_
  refine z_getR dX11_sound_90 fl_X11_16 rfl rfl rfl ?_
  refine z_iload_n dX11_sound_93 rfl rfl ?_
  refine z_iald dX11_sound_94 rfl rfl (by omega) hq ?_
  refine z_iload dX11_sound_95 rfl ?_
  refine z_cS1 dX11_sound_97 ml_X11_133 (sp_rtakes (by exact ho16)) rfl rfl (Nat.le_of_ble_eq_true rfl) ?_
  refine z_icmp_lt (tgt := 114) dX11_sound_100 (by decide) (fun c_ => absurd c_ (nI_nlt hu (by omega))) (fun _ => ?_)
  refine z_iload dX11_sound_103 rfl ?_
  refine z_bipush (v := nI 6) dX11_sound_105 (by decide) ?_
  refine z_icmp_gt (tgt := 114) dX11_sound_107 (by decide) (fun c_ => absurd c_ (nI_nlt hv (by omega))) (fun _ => ?_)
  refine z_iconst (v := 1) dX11_sound_110 (by decide) ?_
  refine z_goto (tgt := 115) dX11_sound_111 (by decide) ?_
  refine z_istore_n dX11_sound_115 rfl (by decide) ?_
  show z_V _ _ _ _ _ _ _ _ _ [_, _, _, _, _, _] _ _
  refine z_iload_n dX11_sound_116 rfl rfl ?_
  refine z_if_eq (tgt := 147) dX11_sound_117 (by decide) (fun c_ => absurd c_ (by decide +kernel)) (fun _ => ?_)
  refine z_iload dX11_sound_120 rfl ?_
  refine z_bipush (v := nI 13) dX11_sound_122 (by decide) ?_
  refine z_icmp_eq (tgt := 134) dX11_sound_124 (by decide) (fun c_ => absurd c_ (nI_ne (by omega) (by omega) (by omega))) (fun _ => ?_)
  refine z_iload dX11_sound_127 rfl ?_
  refine z_bipush (v := nI 14) dX11_sound_129 (by decide) ?_
  refine z_icmp_ne (tgt := 147) dX11_sound_131 (by decide) (fun _ => ?_) (fun c_ => absurd c_ (nI_ne (by omega) (by omega) (by omega)))
  refine z_iload_n dX11_sound_147 rfl rfl ?_
  refine z_if_eq (tgt := 175) dX11_sound_148 (by decide) (fun c_ => absurd c_ (by decide +kernel)) (fun _ => ?_)
  refine z_iload dX11_sound_151 rfl ?_
  refine z_bipush (v := nI 13) dX11_sound_153 (by decide) ?_
  refine z_icmp_eq (tgt := 175) dX11_sound_155 (by decide) (fun c_ => absurd c_ (nI_ne (by omega) (by omega) (by omega))) (fun _ => ?_)
  refine z_iload dX11_sound_158 rfl ?_
  refine z_bipush (v := nI 15) dX11_sound_160 (by decide) ?_
  refine z_icmp_eq (tgt := 175) dX11_sound_162 (by decide) (fun c_ => absurd c_ (nI_ne (by omega) (by omega) (by omega))) (fun _ => ?_)
  refine z_aload_n dX11_sound_165 rfl rfl ?_
  refine z_iload_n dX11_sound_166 rfl rfl ?_
  refine z_iconst (v := 1) dX11_sound_167 (by decide) ?_
  refine z_iadd dX11_sound_168 (nI_1 _) ?_
  refine z_iload dX11_sound_169 rfl ?_
  refine z_cV1 dX11_sound_171 ml_X11_129 (sp_leads hn h40 (by omega)) rfl ⟨by decide, rfl⟩ rfl rfl (Nat.le_of_ble_eq_true rfl) ?_
  refine z_istore_n dX11_sound_174 rfl (by decide) ?_
  show z_V _ _ _ _ _ _ _ _ _ [_, _, _, _, _, _] _ _
  exact K _ _
set_option maxRecDepth 100000 in
set_option maxHeartbeats 4000000 in
theorem rs_b15 {d : Nat} {σ : Nat → Nat → Int32} {τ : Nat → Nat → Int64} {n k q : Nat} {r : Option Value} {X1 : z_X} {w2 : Int32} {w4 w5 : Option Value} (h40 : n ≤ 40) (hn : σ 92 1 = nI n) (hk : k < n) (ho : σ 93 k = nI 15) (hq : σ 95 k = nI q) (hq6 : q ≤ 6) (hu : tk 15 ≤ q) (hv : q - tk 15 + gv 15 ≤ 6) (K : ∀ w4 w5 : Option Value, z_V M_X11_sound (d + 2) 0 0 0 0 r X1 175 [some (.ref 92), some (.int 1), some (.int w2), some (.int (nI k)), w4, w5] [] (124, z_r0, σ, τ)) : z_V M_X11_sound (d + 2) 0 0 0 0 r X1 52 [some (.ref 92), some (.int 1), some (.int w2), some (.int (nI k)), w4, w5] [] (124, z_r0, σ, τ) := by
  have ht2 := tk_2 15 (by decide)
  refine z_aload_n dX11_sound_52 rfl rfl ?_
  refine z_getR dX11_sound_53 fl_X11_7 rfl rfl rfl ?_
  refine z_iload_n dX11_sound_56 rfl rfl ?_
  refine z_iald dX11_sound_57 rfl rfl (by omega) ho ?_
  refine z_istore dX11_sound_58 (by decide) ?_
  show z_V _ _ _ _ _ _ _ _ _ [_, _, _, _, _, _] _ _
  refine z_aload_n dX11_sound_60 rfl rfl ?_
  refine z_getR dX11_sound_61 fl_X11_16 rfl rfl rfl ?_
  refine z_iload_n dX11_sound_64 rfl rfl ?_
  refine z_iald dX11_sound_65 rfl rfl (by omega) hq ?_
  refine z_iload dX11_sound_66 rfl ?_
  refine z_cS1 dX11_sound_68 ml_X11_133 (sp_rtakes (by decide)) rfl rfl (Nat.le_of_ble_eq_true rfl) ?_
  refine z_isub dX11_sound_71 (pk_sub hu) ?_
  refine z_iload dX11_sound_72 rfl ?_
  refine z_cS1 dX11_sound_74 ml_X11_136 (sp_rleaves (by decide)) rfl rfl (Nat.le_of_ble_eq_true rfl) ?_
  refine z_iadd dX11_sound_77 (nI_add _ _) ?_
  refine z_istore dX11_sound_78 (by decide) ?_
  show z_V _ _ _ _ _ _ _ _ _ [_, _, _, _, _, _] _ _
  refine z_aload_n dX11_sound_80 rfl rfl ?_
  refine z_getR dX11_sound_81 fl_X11_16 rfl rfl rfl ?_
  refine z_iload_n dX11_sound_84 rfl rfl ?_
  refine z_iald dX11_sound_85 rfl rfl (by omega) hq ?_
  refine z_if_lt (tgt := 175) dX11_sound_86 (by decide) (fun c_ => absurd c_ (nI_pos (by omega))) (fun _ => ?_)
  refine z_aload_n dX11_sound_89 rfl rfl ?_
  refine z_getR dX11_sound_90 fl_X11_16 rfl rfl rfl ?_
  refine z_iload_n dX11_sound_93 rfl rfl ?_
  refine z_iald dX11_sound_94 rfl rfl (by omega) hq ?_
  refine z_iload dX11_sound_95 rfl ?_
  refine z_cS1 dX11_sound_97 ml_X11_133 (sp_rtakes (by decide)) rfl rfl (Nat.le_of_ble_eq_true rfl) ?_
  refine z_icmp_lt (tgt := 114) dX11_sound_100 (by decide) (fun c_ => absurd c_ (nI_nlt hu (by omega))) (fun _ => ?_)
  refine z_iload dX11_sound_103 rfl ?_
  refine z_bipush (v := nI 6) dX11_sound_105 (by decide) ?_
  refine z_icmp_gt (tgt := 114) dX11_sound_107 (by decide) (fun c_ => absurd c_ (nI_nlt hv (by omega))) (fun _ => ?_)
  refine z_iconst (v := 1) dX11_sound_110 (by decide) ?_
  refine z_goto (tgt := 115) dX11_sound_111 (by decide) ?_
  refine z_istore_n dX11_sound_115 rfl (by decide) ?_
  show z_V _ _ _ _ _ _ _ _ _ [_, _, _, _, _, _] _ _
  refine z_iload_n dX11_sound_116 rfl rfl ?_
  refine z_if_eq (tgt := 147) dX11_sound_117 (by decide) (fun c_ => absurd c_ (by decide +kernel)) (fun _ => ?_)
  refine z_iload dX11_sound_120 rfl ?_
  refine z_bipush (v := nI 13) dX11_sound_122 (by decide) ?_
  refine z_icmp_eq (tgt := 134) dX11_sound_124 (by decide) (fun c_ => absurd c_ (by decide +kernel)) (fun _ => ?_)
  refine z_iload dX11_sound_127 rfl ?_
  refine z_bipush (v := nI 14) dX11_sound_129 (by decide) ?_
  refine z_icmp_ne (tgt := 147) dX11_sound_131 (by decide) (fun _ => ?_) (fun c_ => absurd c_ (by decide +kernel))
  refine z_iload_n dX11_sound_147 rfl rfl ?_
  refine z_if_eq (tgt := 175) dX11_sound_148 (by decide) (fun c_ => absurd c_ (by decide +kernel)) (fun _ => ?_)
  refine z_iload dX11_sound_151 rfl ?_
  refine z_bipush (v := nI 13) dX11_sound_153 (by decide) ?_
  refine z_icmp_eq (tgt := 175) dX11_sound_155 (by decide) (fun c_ => absurd c_ (by decide +kernel)) (fun _ => ?_)
  refine z_iload dX11_sound_158 rfl ?_
  refine z_bipush (v := nI 15) dX11_sound_160 (by decide) ?_
  refine z_icmp_eq (tgt := 175) dX11_sound_162 (by decide) (fun _ => ?_) (fun c_ => absurd (by decide +kernel) c_)
  exact K _ _
set_option maxRecDepth 100000 in
set_option maxHeartbeats 4000000 in
theorem rs_b13 {d : Nat} {σ : Nat → Nat → Int32} {τ : Nat → Nat → Int64} {n k q : Nat} {r : Option Value} {X1 : z_X} {w2 : Int32} {w4 w5 : Option Value} (h40 : n ≤ 40) (hn : σ 92 1 = nI n) (hk : k < n) (ho : σ 93 k = nI 13) (hq : σ 95 k = nI q) (hq6 : q ≤ 6) (hu : tk 13 ≤ q) (hv : q - tk 13 + gv 13 ≤ 6) {l : Nat} (hx : σ 94 k = nI l) (hl : l < 40) (K : ∀ w4 w5 : Option Value, z_V M_X11_sound (d + 2) 0 0 0 0 r X1 175 [some (.ref 92), some (.int (rld σ n l (nI (q - tk 13 + gv 13))).1), some (.int w2), some (.int (nI k)), w4, w5] [] (124, z_r0, (rld σ n l (nI (q - tk 13 + gv 13))).2, τ)) : z_V M_X11_sound (d + 2) 0 0 0 0 r X1 52 [some (.ref 92), some (.int 1), some (.int w2), some (.int (nI k)), w4, w5] [] (124, z_r0, σ, τ) := by
  have ht2 := tk_2 13 (by decide)
  refine z_aload_n dX11_sound_52 rfl rfl ?_
  refine z_getR dX11_sound_53 fl_X11_7 rfl rfl rfl ?_
  refine z_iload_n dX11_sound_56 rfl rfl ?_
  refine z_iald dX11_sound_57 rfl rfl (by omega) ho ?_
  refine z_istore dX11_sound_58 (by decide) ?_
  show z_V _ _ _ _ _ _ _ _ _ [_, _, _, _, _, _] _ _
  refine z_aload_n dX11_sound_60 rfl rfl ?_
  refine z_getR dX11_sound_61 fl_X11_16 rfl rfl rfl ?_
  refine z_iload_n dX11_sound_64 rfl rfl ?_
  refine z_iald dX11_sound_65 rfl rfl (by omega) hq ?_
  refine z_iload dX11_sound_66 rfl ?_
  refine z_cS1 dX11_sound_68 ml_X11_133 (sp_rtakes (by decide)) rfl rfl (Nat.le_of_ble_eq_true rfl) ?_
  refine z_isub dX11_sound_71 (pk_sub hu) ?_
  refine z_iload dX11_sound_72 rfl ?_
  refine z_cS1 dX11_sound_74 ml_X11_136 (sp_rleaves (by decide)) rfl rfl (Nat.le_of_ble_eq_true rfl) ?_
  refine z_iadd dX11_sound_77 (nI_add _ _) ?_
  refine z_istore dX11_sound_78 (by decide) ?_
  show z_V _ _ _ _ _ _ _ _ _ [_, _, _, _, _, _] _ _
  refine z_aload_n dX11_sound_80 rfl rfl ?_
  refine z_getR dX11_sound_81 fl_X11_16 rfl rfl rfl ?_
  refine z_iload_n dX11_sound_84 rfl rfl ?_
  refine z_iald dX11_sound_85 rfl rfl (by omega) hq ?_
  refine z_if_lt (tgt := 175) dX11_sound_86 (by decide) (fun c_ => absurd c_ (nI_pos (by omega))) (fun _ => ?_)
  refine z_aload_n dX11_sound_89 rfl rfl ?_
  refine z_getR dX11_sound_90 fl_X11_16 rfl rfl rfl ?_
  refine z_iload_n dX11_sound_93 rfl rfl ?_
  refine z_iald dX11_sound_94 rfl rfl (by omega) hq ?_
  refine z_iload dX11_sound_95 rfl ?_
  refine z_cS1 dX11_sound_97 ml_X11_133 (sp_rtakes (by decide)) rfl rfl (Nat.le_of_ble_eq_true rfl) ?_
  refine z_icmp_lt (tgt := 114) dX11_sound_100 (by decide) (fun c_ => absurd c_ (nI_nlt hu (by omega))) (fun _ => ?_)
  refine z_iload dX11_sound_103 rfl ?_
  refine z_bipush (v := nI 6) dX11_sound_105 (by decide) ?_
  refine z_icmp_gt (tgt := 114) dX11_sound_107 (by decide) (fun c_ => absurd c_ (nI_nlt hv (by omega))) (fun _ => ?_)
  refine z_iconst (v := 1) dX11_sound_110 (by decide) ?_
  refine z_goto (tgt := 115) dX11_sound_111 (by decide) ?_
  refine z_istore_n dX11_sound_115 rfl (by decide) ?_
  show z_V _ _ _ _ _ _ _ _ _ [_, _, _, _, _, _] _ _
  refine z_iload_n dX11_sound_116 rfl rfl ?_
  refine z_if_eq (tgt := 147) dX11_sound_117 (by decide) (fun c_ => absurd c_ (by decide +kernel)) (fun _ => ?_)
  refine z_iload dX11_sound_120 rfl ?_
  refine z_bipush (v := nI 13) dX11_sound_122 (by decide) ?_
  refine z_icmp_eq (tgt := 134) dX11_sound_124 (by decide) (fun _ => ?_) (fun c_ => absurd (by decide +kernel) c_)
  refine z_aload_n dX11_sound_134 rfl rfl ?_
  refine z_aload_n dX11_sound_135 rfl rfl ?_
  refine z_getR dX11_sound_136 fl_X11_13 rfl rfl rfl ?_
  refine z_iload_n dX11_sound_139 rfl rfl ?_
  refine z_iald dX11_sound_140 rfl rfl (by omega) hx ?_
  refine z_iload dX11_sound_141 rfl ?_
  refine z_cV1 dX11_sound_143 ml_X11_129 (sp_leads hn h40 (by omega)) rfl ⟨by decide, rfl⟩ rfl rfl (Nat.le_of_ble_eq_true rfl) ?_
  refine z_istore_n dX11_sound_146 rfl (by decide) ?_
  show z_V _ _ _ _ _ _ _ _ _ [_, _, _, _, _, _] _ _
  refine z_iload_n dX11_sound_147 rfl rfl ?_
  refine z_if_eq (tgt := 175) dX11_sound_148 (by decide) (fun c148 => ?_) (fun c148 => ?_)
  · exact K _ _
  · refine z_iload dX11_sound_151 rfl ?_
    refine z_bipush (v := nI 13) dX11_sound_153 (by decide) ?_
    refine z_icmp_eq (tgt := 175) dX11_sound_155 (by decide) (fun _ => ?_) (fun c_ => absurd (by decide +kernel) c_)
    exact K _ _
set_option maxRecDepth 100000 in
set_option maxHeartbeats 4000000 in
theorem rs_b14 {d : Nat} {σ : Nat → Nat → Int32} {τ : Nat → Nat → Int64} {n k q : Nat} {r : Option Value} {X1 : z_X} {w2 : Int32} {w4 w5 : Option Value} (h40 : n ≤ 40) (hn : σ 92 1 = nI n) (hk : k < n) (ho : σ 93 k = nI 14) (hq : σ 95 k = nI q) (hq6 : q ≤ 6) (hu : tk 14 ≤ q) (hv : q - tk 14 + gv 14 ≤ 6) {l : Nat} (hx : σ 94 k = nI l) (hl : l < 40) (K : ∀ w4 w5 : Option Value, z_V M_X11_sound (d + 2) 0 0 0 0 r X1 175 [some (.ref 92), some (.int (if (rld σ n l (nI (q - tk 14 + gv 14))).1 = 0 then (rld σ n l (nI (q - tk 14 + gv 14))) else rld (rld σ n l (nI (q - tk 14 + gv 14))).2 n (k + 1) (nI (q - tk 14 + gv 14))).1), some (.int w2), some (.int (nI k)), w4, w5] [] (124, z_r0, (if (rld σ n l (nI (q - tk 14 + gv 14))).1 = 0 then (rld σ n l (nI (q - tk 14 + gv 14))) else rld (rld σ n l (nI (q - tk 14 + gv 14))).2 n (k + 1) (nI (q - tk 14 + gv 14))).2, τ)) : z_V M_X11_sound (d + 2) 0 0 0 0 r X1 52 [some (.ref 92), some (.int 1), some (.int w2), some (.int (nI k)), w4, w5] [] (124, z_r0, σ, τ) := by
  have ht2 := tk_2 14 (by decide)
  refine z_aload_n dX11_sound_52 rfl rfl ?_
  refine z_getR dX11_sound_53 fl_X11_7 rfl rfl rfl ?_
  refine z_iload_n dX11_sound_56 rfl rfl ?_
  refine z_iald dX11_sound_57 rfl rfl (by omega) ho ?_
  refine z_istore dX11_sound_58 (by decide) ?_
  show z_V _ _ _ _ _ _ _ _ _ [_, _, _, _, _, _] _ _
  refine z_aload_n dX11_sound_60 rfl rfl ?_
  refine z_getR dX11_sound_61 fl_X11_16 rfl rfl rfl ?_
  refine z_iload_n dX11_sound_64 rfl rfl ?_
  refine z_iald dX11_sound_65 rfl rfl (by omega) hq ?_
  refine z_iload dX11_sound_66 rfl ?_
  refine z_cS1 dX11_sound_68 ml_X11_133 (sp_rtakes (by decide)) rfl rfl (Nat.le_of_ble_eq_true rfl) ?_
  refine z_isub dX11_sound_71 (pk_sub hu) ?_
  refine z_iload dX11_sound_72 rfl ?_
  refine z_cS1 dX11_sound_74 ml_X11_136 (sp_rleaves (by decide)) rfl rfl (Nat.le_of_ble_eq_true rfl) ?_
  refine z_iadd dX11_sound_77 (nI_add _ _) ?_
  refine z_istore dX11_sound_78 (by decide) ?_
  show z_V _ _ _ _ _ _ _ _ _ [_, _, _, _, _, _] _ _
  refine z_aload_n dX11_sound_80 rfl rfl ?_
  refine z_getR dX11_sound_81 fl_X11_16 rfl rfl rfl ?_
  refine z_iload_n dX11_sound_84 rfl rfl ?_
  refine z_iald dX11_sound_85 rfl rfl (by omega) hq ?_
  refine z_if_lt (tgt := 175) dX11_sound_86 (by decide) (fun c_ => absurd c_ (nI_pos (by omega))) (fun _ => ?_)
  refine z_aload_n dX11_sound_89 rfl rfl ?_
  refine z_getR dX11_sound_90 fl_X11_16 rfl rfl rfl ?_
  refine z_iload_n dX11_sound_93 rfl rfl ?_
  refine z_iald dX11_sound_94 rfl rfl (by omega) hq ?_
  refine z_iload dX11_sound_95 rfl ?_
  refine z_cS1 dX11_sound_97 ml_X11_133 (sp_rtakes (by decide)) rfl rfl (Nat.le_of_ble_eq_true rfl) ?_
  refine z_icmp_lt (tgt := 114) dX11_sound_100 (by decide) (fun c_ => absurd c_ (nI_nlt hu (by omega))) (fun _ => ?_)
  refine z_iload dX11_sound_103 rfl ?_
  refine z_bipush (v := nI 6) dX11_sound_105 (by decide) ?_
  refine z_icmp_gt (tgt := 114) dX11_sound_107 (by decide) (fun c_ => absurd c_ (nI_nlt hv (by omega))) (fun _ => ?_)
  refine z_iconst (v := 1) dX11_sound_110 (by decide) ?_
  refine z_goto (tgt := 115) dX11_sound_111 (by decide) ?_
  refine z_istore_n dX11_sound_115 rfl (by decide) ?_
  show z_V _ _ _ _ _ _ _ _ _ [_, _, _, _, _, _] _ _
  refine z_iload_n dX11_sound_116 rfl rfl ?_
  refine z_if_eq (tgt := 147) dX11_sound_117 (by decide) (fun c_ => absurd c_ (by decide +kernel)) (fun _ => ?_)
  refine z_iload dX11_sound_120 rfl ?_
  refine z_bipush (v := nI 13) dX11_sound_122 (by decide) ?_
  refine z_icmp_eq (tgt := 134) dX11_sound_124 (by decide) (fun c_ => absurd c_ (by decide +kernel)) (fun _ => ?_)
  refine z_iload dX11_sound_127 rfl ?_
  refine z_bipush (v := nI 14) dX11_sound_129 (by decide) ?_
  refine z_icmp_ne (tgt := 147) dX11_sound_131 (by decide) (fun c_ => absurd (by decide +kernel) c_) (fun _ => ?_)
  refine z_aload_n dX11_sound_134 rfl rfl ?_
  refine z_aload_n dX11_sound_135 rfl rfl ?_
  refine z_getR dX11_sound_136 fl_X11_13 rfl rfl rfl ?_
  refine z_iload_n dX11_sound_139 rfl rfl ?_
  refine z_iald dX11_sound_140 rfl rfl (by omega) hx ?_
  refine z_iload dX11_sound_141 rfl ?_
  refine z_cV1 dX11_sound_143 ml_X11_129 (sp_leads hn h40 (by omega)) rfl ⟨by decide, rfl⟩ rfl rfl (Nat.le_of_ble_eq_true rfl) ?_
  refine z_istore_n dX11_sound_146 rfl (by decide) ?_
  show z_V _ _ _ _ _ _ _ _ _ [_, _, _, _, _, _] _ _
  refine z_iload_n dX11_sound_147 rfl rfl ?_
  refine z_if_eq (tgt := 175) dX11_sound_148 (by decide) (fun c148 => ?_) (fun c148 => ?_)
  · rw [if_pos c148] at K
    exact K _ _
  · rw [if_neg c148] at K
    refine z_iload dX11_sound_151 rfl ?_
    refine z_bipush (v := nI 13) dX11_sound_153 (by decide) ?_
    refine z_icmp_eq (tgt := 175) dX11_sound_155 (by decide) (fun c_ => absurd c_ (by decide +kernel)) (fun _ => ?_)
    refine z_iload dX11_sound_158 rfl ?_
    refine z_bipush (v := nI 15) dX11_sound_160 (by decide) ?_
    refine z_icmp_eq (tgt := 175) dX11_sound_162 (by decide) (fun c_ => absurd c_ (by decide +kernel)) (fun _ => ?_)
    refine z_aload_n dX11_sound_165 rfl rfl ?_
    refine z_iload_n dX11_sound_166 rfl rfl ?_
    refine z_iconst (v := 1) dX11_sound_167 (by decide) ?_
    refine z_iadd dX11_sound_168 (nI_1 _) ?_
    refine z_iload dX11_sound_169 rfl ?_
    refine z_cV1 dX11_sound_171 ml_X11_129 (sp_leads (show _ = nI n by rw [rld_ne (by decide)]; exact hn) h40 (by omega)) rfl ⟨by decide, rfl⟩ rfl rfl (Nat.le_of_ble_eq_true rfl) ?_
    refine z_istore_n dX11_sound_174 rfl (by decide) ?_
    show z_V _ _ _ _ _ _ _ _ _ [_, _, _, _, _, _] _ _
    exact K _ _
theorem rs_body {d : Nat} {σ : Nat → Nat → Int32} {τ : Nat → Nat → Int64} {n k : Nat} {r : Option Value} {X1 : z_X} {w2 : Int32} {w4 w5 : Option Value} (h : rgI σ n) (hk : k < n) (K : ∀ w4 w5 : Option Value, z_V M_X11_sound (d + 2) 0 0 0 0 r X1 175 [some (.ref 92), some (.int (rlw σ n k).1), some (.int w2), some (.int (nI k)), w4, w5] [] (124, z_r0, (rlw σ n k).2, τ)) : z_V M_X11_sound (d + 2) 0 0 0 0 r X1 52 [some (.ref 92), some (.int 1), some (.int w2), some (.int (nI k)), w4, w5] [] (124, z_r0, σ, τ) := by
  obtain ⟨h40, hn, hw, hd⟩ := h
  obtain ⟨o, ho16, ho, hj⟩ := hw k hk
  unfold rlw at K
  rcases hd k hk with z | ⟨q, hq6, hq⟩
  · have hneg : σ 95 k < 0 := by rw [z]; decide
    rw [if_pos hneg] at K
    exact rs_bN (q := 0) h40 hn hk ho ho16 hneg K
  · have hneg : ¬ σ 95 k < 0 := by rw [hq]; exact nI_pos (by omega)
    rw [if_neg hneg, hq, ho, tN_nI (by omega), tN_nI (by omega)] at K
    rcases Nat.lt_or_ge q (tk o) with hu | hu
    · rw [if_pos (Or.inl hu)] at K
      exact rs_bU h40 hn hk ho ho16 hq hq6 hu K
    · rcases Nat.lt_or_ge 6 (q - tk o + gv o) with hv | hv
      · rw [if_pos (Or.inr hv)] at K
        exact rs_bO h40 hn hk ho ho16 hq hq6 hu hv K
      · rw [if_neg (by omega)] at K
        unfold rlB at K
        by_cases h13 : o = 13
        · subst h13
          obtain ⟨l, hl, hx⟩ := hj (Or.inl rfl)
          rw [if_pos rfl, hx, tN_nI (by omega)] at K
          exact rs_b13 h40 hn hk ho hq hq6 hu hv hx hl K
        · rw [if_neg h13] at K
          by_cases h14 : o = 14
          · subst h14
            obtain ⟨l, hl, hx⟩ := hj (Or.inr rfl)
            rw [if_pos rfl, hx, tN_nI (by omega)] at K
            exact rs_b14 h40 hn hk ho hq hq6 hu hv hx hl K
          · rw [if_neg h14] at K
            by_cases h15 : o = 15
            · subst h15
              rw [if_pos rfl] at K
              exact rs_b15 h40 hn hk ho hq hq6 hu hv K
            · rw [if_neg h15] at K
              exact rs_bG h40 hn hk ho ho16 hq hq6 hu hv h13 h14 h15 K
set_option maxRecDepth 100000 in
set_option maxHeartbeats 4000000 in
theorem rs_inner {d : Nat} {τ : Nat → Nat → Int64} {n : Nat} {r : Option Value} {X1 : z_X} {w2 : Int32} : ∀ (m k : Nat) (g : Int32) (σ : Nat → Nat → Int32) (w4 w5 : Option Value), (g = 0 ∨ g = 1) → rgI σ n → k + m = n → k ≤ 40 →
    (∀ (w3 w4 w5 : Option Value), z_V M_X11_sound (d + 2) 0 0 0 0 r X1 181 [some (.ref 92), some (.int (rsI n m k g σ).1), some (.int w2), w3, w4, w5] [] (124, z_r0, (rsI n m k g σ).2, τ)) →
    z_V M_X11_sound (d + 2) 0 0 0 0 r X1 40 [some (.ref 92), some (.int g), some (.int w2), some (.int (nI k)), w4, w5] [] (124, z_r0, σ, τ) := by
  intro m
  induction m using Nat.strongRecOn with
  | ind m ih =>
    intro k g σ w4 w5 hg h hm hk40 K
    have h40 := h.1
    refine z_iload_n dX11_sound_40 rfl rfl ?_
    refine z_aload_n dX11_sound_41 rfl rfl ?_
    refine z_getI dX11_sound_42 fl_X11_122 rfl rfl h.2.1 ?_
    refine z_icmp_ge (tgt := 181) dX11_sound_45 (by decide) (fun c45 => ?_) (fun c45 => ?_)
    · have e0 : m = 0 := by
        rcases Nat.lt_or_ge k n with q | q
        · exact absurd c45 (nI_ge q (by omega))
        · omega
      subst e0
      exact K _ _ _
    · have hlt : k < n := by
        rcases Nat.lt_or_ge k n with q | q
        · exact q
        · exact absurd (nI_le q (by omega)) c45
      obtain ⟨m, rfl⟩ : ∃ j, m = j + 1 := ⟨m - 1, by omega⟩
      refine z_iload_n dX11_sound_48 rfl rfl ?_
      refine z_if_eq (tgt := 181) dX11_sound_49 (by decide) (fun c49 => ?_) (fun c49 => ?_)
      · have e1 : rsI n (m + 1) k g σ = (g, σ) := by simp only [rsI]; rw [if_pos c49]
        rw [e1] at K
        exact K _ _ _
      · have hg1 : g = 1 := hg.resolve_left c49
        subst hg1
        have e1 : rsI n (m + 1) k 1 σ = rsI n m (k + 1) (rlw σ n k).1 (rlw σ n k).2 := by simp only [rsI]; rw [if_neg c49]
        rw [e1] at K
        refine rs_body h hlt (fun w4 w5 => ?_)
        refine z_iinc dX11_sound_175 rfl (nI_i _) (by decide) ?_
        show z_V _ _ _ _ _ _ _ _ _ [_, _, _, _, _, _] _ _
        refine z_goto (tgt := 40) dX11_sound_178 (by decide) ?_
        exact ih m (by omega) (k + 1) _ _ w4 w5 rlw_01 (rgI_lw hlt h) (by omega) (by omega) K
theorem rsI_g {n : Nat} : ∀ (m k : Nat) (g : Int32) (σ : Nat → Nat → Int32), (g = 0 ∨ g = 1) → rgI σ n → k + m = n → ((rsI n m k g σ).1 = 0 ∨ (rsI n m k g σ).1 = 1) ∧ rgI (rsI n m k g σ).2 n := by
  intro m
  induction m with
  | zero => intro k g σ hg h _; exact ⟨hg, h⟩
  | succ m ih =>
    intro k g σ hg h hm
    simp only [rsI]
    split
    · exact ⟨hg, h⟩
    · exact ih (k + 1) _ _ rlw_01 (rgI_lw (by omega) h) (by omega)
set_option maxRecDepth 100000 in
set_option maxHeartbeats 4000000 in
theorem rs_outer {d : Nat} {τ : Nat → Nat → Int64} {n : Nat} : ∀ (m k : Nat) (g : Int32) (σ : Nat → Nat → Int32) (w3 w4 w5 : Option Value), (g = 0 ∨ g = 1) → rgI σ n → k + m = n →
    z_V M_X11_sound (d + 2) 0 0 0 0 (some (.int (rsO n m g σ).1)) (124, z_r0, (rsO n m g σ).2, τ) 30 [some (.ref 92), some (.int g), some (.int (nI k)), w3, w4, w5] [] (124, z_r0, σ, τ) := by
  intro m
  induction m using Nat.strongRecOn with
  | ind m ih =>
    intro k g σ w3 w4 w5 hg h hm
    have h40 := h.1
    refine z_iload_n dX11_sound_30 rfl rfl ?_
    refine z_aload_n dX11_sound_31 rfl rfl ?_
    refine z_getI dX11_sound_32 fl_X11_122 rfl rfl h.2.1 ?_
    refine z_icmp_ge (tgt := 187) dX11_sound_35 (by decide) (fun c35 => ?_) (fun c35 => ?_)
    · have e0 : m = 0 := by
        rcases Nat.lt_or_ge k n with q | q
        · exact absurd c35 (nI_ge q (by omega))
        · omega
      subst e0
      refine z_iload_n dX11_sound_187 rfl rfl ?_
      exact z_zret dX11_sound_188 rfl hg rfl rfl
    · have hlt : k < n := by
        rcases Nat.lt_or_ge k n with q | q
        · exact q
        · exact absurd (nI_le q (by omega)) c35
      obtain ⟨m, rfl⟩ : ∃ j, m = j + 1 := ⟨m - 1, by omega⟩
      refine z_iconst (v := 0) dX11_sound_38 (by decide) ?_
      refine z_istore_n dX11_sound_39 rfl (by decide) ?_
      show z_V _ _ _ _ _ _ _ _ _ [_, _, _, _, _, _] _ _
      refine rs_inner n 0 g σ w4 w5 hg h (by omega) (by omega) (fun w3 w4 w5 => ?_)
      have hn2 := rsI_g n 0 g σ hg h (by omega)
      refine z_iinc dX11_sound_181 rfl (nI_i _) (by decide) ?_
      show z_V _ _ _ _ _ _ _ _ _ [_, _, _, _, _, _] _ _
      refine z_goto (tgt := 30) dX11_sound_184 (by decide) ?_
      exact ih m (by omega) (k + 1) _ _ w3 w4 w5 hn2.1 hn2.2 (by omega)
theorem rgI_0 {σ : Nat → Nat → Int32} {n : Nat} (h40 : n ≤ 40) (hn : σ 92 1 = nI n) (hw : wfR σ n) : rgI (rs0 σ) n := by
  refine ⟨h40, by rw [rs0, rowF_ne _ _ _ (by decide)]; exact hn, by unfold wfR; rw [rs0, rowF_ne _ _ _ (by decide), rowF_ne _ _ _ (by decide)]; exact hw, fun a ha => Or.inl ?_⟩
  have : a < 40 := by omega
  simp [rs0, rowF, z_row, this]
set_option maxRecDepth 100000 in
set_option maxHeartbeats 4000000 in
theorem rs_fill {d : Nat} {σ : Nat → Nat → Int32} {τ : Nat → Nat → Int64} {n : Nat} (h40 : n ≤ 40) (hn : σ 92 1 = nI n) (hw : wfR σ n) : ∀ (m v : Nat), v ≤ 40 → 40 - v < m → z_V M_X11_sound (d + 2) 0 0 0 0 (some (.int (rsnd σ n).1)) (124, z_r0, (rsnd σ n).2, τ) 2 [some (.ref 92), some (.int (nI v)), none, none, none, none] [] (124, z_r0, rowF σ 95 (fun _ => -1) v, τ) := by
  intro m
  induction m with
  | zero => intro v _ h; omega
  | succ m ih =>
    intro v hv1 hv2
    refine z_iload_n dX11_sound_2 rfl rfl ?_
    refine z_bipush (v := nI 40) dX11_sound_3 (by decide) ?_
    refine z_icmp_ge (tgt := 21) dX11_sound_5 (by decide) (fun c5 => ?_) (fun c5 => ?_)
    · have e0 : 40 = v := by
        rcases Nat.lt_or_ge v 40 with q | q
        · exact absurd c5 (nI_ge q (by omega))
        · omega
      subst e0
      refine z_aload_n dX11_sound_21 rfl rfl ?_
      refine z_iconst (v := 0) dX11_sound_22 (by decide) ?_
      refine z_iconst (v := 0) dX11_sound_23 (by decide) ?_
      refine z_cV1 dX11_sound_24 ml_X11_129 (sp_leads (σ := rs0 σ) (n := n) (a := 0) (q := 0) (rgI_0 h40 hn hw).2.1 h40 (by omega)) rfl ⟨by decide, rfl⟩ rfl rfl (Nat.le_of_ble_eq_true rfl) ?_
      refine z_istore_n dX11_sound_27 rfl (by decide) ?_
      show z_V _ _ _ _ _ _ _ _ _ [_, _, _, _, _, _] _ _
      refine z_iconst (v := 0) dX11_sound_28 (by decide) ?_
      refine z_istore_n dX11_sound_29 rfl (by decide) ?_
      show z_V _ _ _ _ _ _ _ _ _ [_, _, _, _, _, _] _ _
      exact rs_outer n 0 _ _ none none none rld_01 (rgI_rld (q := 0) (by omega) (rgI_0 h40 hn hw)) (by omega)
    · have hlt : v < 40 := by
        rcases Nat.lt_or_ge v 40 with q | q
        · exact q
        · exact absurd (nI_le q (by omega)) c5
      refine z_aload_n dX11_sound_8 rfl rfl ?_
      refine z_getR dX11_sound_9 fl_X11_16 rfl rfl rfl ?_
      refine z_iload_n dX11_sound_12 rfl rfl ?_
      refine z_iconst (v := (-1)) dX11_sound_13 (by decide) ?_
      refine z_iast dX11_sound_14 rfl rfl (by omega) ?_
      refine z_iinc dX11_sound_15 rfl (nI_i _) (by decide) ?_
      show z_V _ _ _ _ _ _ _ _ _ [_, _, _, _, _, _] _ _
      refine z_goto (tgt := 2) dX11_sound_18 (by decide) ?_
      rw [show z_up (rowF σ 95 (fun _ => -1) v) 95 v (-1) = rowF σ 95 (fun _ => -1) (v + 1) from rowF_s _ _ (fun _ => -1) _]
      exact ih (v + 1) (by omega) (by omega)
set_option maxRecDepth 100000 in
set_option maxHeartbeats 4000000 in
theorem sp_rsound {d : Nat} {σ : Nat → Nat → Int32} {τ : Nat → Nat → Int64} {n : Nat} (h40 : n ≤ 40) (hn : σ 92 1 = nI n) (hw : wfR σ n) : z_MV M_X11_sound (d + 2) 0 0 [.ref 92] (124, z_r0, σ, τ) (some (.int (rsnd σ n).1)) (124, z_r0, (rsnd σ n).2, τ) := by
  refine z_MV.of pn_X11_sound (Nat.le_of_ble_eq_true rfl) (by simp [Value.category]) rfl ?_
  show z_V _ _ _ _ _ _ _ _ _ [_, _, _, _, _, _] _ _
  refine z_iconst (v := 0) dX11_sound_0 (by decide) ?_
  refine z_istore_n dX11_sound_1 rfl (by decide) ?_
  show z_V _ _ _ _ _ _ _ _ _ [_, _, _, _, _, _] _ _
  have h2 := rs_fill (d := d) (τ := τ) h40 hn hw 41 0 (by omega) (by omega)
  rw [rowF_0] at h2
  exact h2
