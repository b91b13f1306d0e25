/-! PART 24: Frame.move, Guards -/
def tN (x : Int32) : Nat := x.toNatClampNeg
theorem tN_nI {n : Nat} (h : n < 2 ^ 31) : tN (nI n) = n := nI_clamp h
def pu (σ : Nat → Nat → Int32) (f e : Nat) (x : Int32) : Nat → Nat → Int32 := z_up (z_up σ (f + 2) e x) f 2 (nI (e + 1))
def po (σ : Nat → Nat → Int32) (f e : Nat) : Nat → Nat → Int32 := z_up σ f 2 (nI e)
def rowF (σ : Nat → Nat → Int32) (a : Nat) (F : Nat → Int32) (i : Nat) : Nat → Nat → Int32 := z_row σ a (fun j => if j < i then F j else σ a j)
theorem rowF_0 (σ : Nat → Nat → Int32) (a : Nat) (F : Nat → Int32) : rowF σ a F 0 = σ := by
  funext b j
  by_cases hb : b = a <;> simp [rowF, z_row, hb]
theorem rowF_s (σ : Nat → Nat → Int32) (a : Nat) (F : Nat → Int32) (i : Nat) : z_up (rowF σ a F i) a i (F i) = rowF σ a F (i + 1) := by
  funext b j
  by_cases hb : b = a
  · subst hb
    by_cases hj : j = i
    · subst hj; simp [rowF, z_row, z_up]
    · simp only [rowF, z_row, z_up, hj, and_false, ↓reduceIte]
      have : j < i + 1 ↔ j < i := by omega
      simp [this]
  · simp [rowF, z_row, z_up, hb]
theorem rowF_ne (σ : Nat → Nat → Int32) {a b : Nat} (F : Nat → Int32) (i : Nat) (h : b ≠ a) : rowF σ a F i b = σ b := by simp [rowF, z_row, h]
theorem tr_ne {t c : Nat} (h : c < 28) (k : Nat) : ¬ c = tr t + k := by unfold tr; omega
theorem tr_ne' {t c : Nat} (h : c < 28) (k : Nat) : ¬ tr t + k = c := by unfold tr; omega
theorem tr_ne0 {t c : Nat} (h : c < 28) : ¬ c = tr t := by unfold tr; omega
theorem tr_ne0' {t c : Nat} (h : c < 28) : ¬ tr t = c := by unfold tr; omega
set_option maxRecDepth 100000 in
set_option maxHeartbeats 4000000 in
theorem sp_mv1 {d : Nat} {σ : Nat → Nat → Int32} {τ : Nat → Nat → Int64} {f e : Nat} (hf0 : f = 6 ∨ f = 20) {l : Nat} (hd : σ f 2 = nI e) (he : e < 6) (hl : l < 6) : z_MV M_X1_move (d + 1) 0 0 [.ref f, .int (nI 1), .int (nI l)] (124, z_r0, σ, τ) (none) (124, z_r0, pu σ f e (σ (f + 1) l), τ) := by
  refine z_MV.of pn_X1_move (Nat.le_of_ble_eq_true rfl) (by simp [Value.category]) rfl ?_
  show z_V _ _ _ _ _ _ _ _ _ [_, _, _, _, _, _] _ _
  have hf := fr_k hf0
  refine z_iload_n dX1_move_0 rfl rfl ?_
  refine z_tableIn (off := 59) (tgt := 60) dX1_move_1 (by decide) (by decide) (by decide) (by decide) ?_
  refine z_aload_n dX1_move_60 rfl rfl ?_
  refine z_aload_n dX1_move_61 rfl rfl ?_
  refine z_getR dX1_move_62 fl_X1_9 rfl hf.1 hf.2.2.2.1 ?_
  refine z_iload_n dX1_move_65 rfl rfl ?_
  refine z_iald dX1_move_66 hf.2.1 rfl (by omega) rfl ?_
  refine z_cV0 dX1_move_67 ml_X1_31 (sp_push hf0 hd he) hf.1 ⟨by decide, rfl⟩ rfl rfl (Nat.le_of_ble_eq_true rfl) ?_
  refine z_goto (tgt := 139) dX1_move_70 (by decide) ?_
  exact z_vret dX1_move_139 rfl rfl rfl
set_option maxRecDepth 100000 in
set_option maxHeartbeats 4000000 in
theorem sp_mv2 {d : Nat} {σ : Nat → Nat → Int32} {τ : Nat → Nat → Int64} {f e : Nat} (hf0 : f = 6 ∨ f = 20) {l : Nat} (hd : σ f 2 = nI (e + 1)) (he : e < 6) (hl : l < 6) : z_MV M_X1_move (d + 1) 0 0 [.ref f, .int (nI 2), .int (nI l)] (124, z_r0, σ, τ) (none) (124, z_r0, z_up (po σ f e) (f + 1) l (σ (f + 2) e), τ) := by
  refine z_MV.of pn_X1_move (Nat.le_of_ble_eq_true rfl) (by simp [Value.category]) rfl ?_
  show z_V _ _ _ _ _ _ _ _ _ [_, _, _, _, _, _] _ _
  have hf := fr_k hf0
  refine z_iload_n dX1_move_0 rfl rfl ?_
  refine z_tableIn (off := 72) (tgt := 73) dX1_move_1 (by decide) (by decide) (by decide) (by decide) ?_
  refine z_aload_n dX1_move_73 rfl rfl ?_
  refine z_getR dX1_move_74 fl_X1_9 rfl hf.1 hf.2.2.2.1 ?_
  refine z_iload_n dX1_move_77 rfl rfl ?_
  refine z_aload_n dX1_move_78 rfl rfl ?_
  refine z_cV1 dX1_move_79 ml_X1_35 (sp_pop hf0 hd he) hf.1 ⟨by decide, rfl⟩ rfl rfl (Nat.le_of_ble_eq_true rfl) ?_
  refine z_iast dX1_move_82 hf.2.1 rfl (by omega) ?_
  refine z_goto (tgt := 139) dX1_move_83 (by decide) ?_
  exact z_vret dX1_move_139 rfl rfl rfl
set_option maxRecDepth 100000 in
set_option maxHeartbeats 4000000 in
theorem sp_mv9 {d : Nat} {σ : Nat → Nat → Int32} {τ : Nat → Nat → Int64} {f e : Nat} (hf0 : f = 6 ∨ f = 20) {x : Int32} (hd : σ f 2 = nI (e + 1)) (he : e + 1 < 6) : z_MV M_X1_move (d + 1) 0 0 [.ref f, .int (nI 9), .int x] (124, z_r0, σ, τ) (none) (124, z_r0, pu (pu (po σ f e) f e (σ (f + 2) e)) f (e + 1) (σ (f + 2) e), τ) := by
  refine z_MV.of pn_X1_move (Nat.le_of_ble_eq_true rfl) (by simp [Value.category]) rfl ?_
  show z_V _ _ _ _ _ _ _ _ _ [_, _, _, _, _, _] _ _
  have hf := fr_k hf0
  refine z_iload_n dX1_move_0 rfl rfl ?_
  refine z_tableIn (off := 85) (tgt := 86) dX1_move_1 (by decide) (by decide) (by decide) (by decide) ?_
  refine z_aload_n dX1_move_86 rfl rfl ?_
  refine z_cV1 dX1_move_87 ml_X1_35 (sp_pop hf0 hd (by omega)) hf.1 ⟨by decide, rfl⟩ rfl rfl (Nat.le_of_ble_eq_true rfl) ?_
  refine z_istore_n dX1_move_90 rfl (by decide) ?_
  show z_V _ _ _ _ _ _ _ _ _ [_, _, _, _, _, _] _ _
  refine z_aload_n dX1_move_91 rfl rfl ?_
  refine z_iload_n dX1_move_92 rfl rfl ?_
  refine z_cV0 dX1_move_93 ml_X1_31 (sp_push hf0 (show _ = nI e by simp [z_up]) (by omega)) hf.1 ⟨by decide, rfl⟩ rfl rfl (Nat.le_of_ble_eq_true rfl) ?_
  refine z_aload_n dX1_move_96 rfl rfl ?_
  refine z_iload_n dX1_move_97 rfl rfl ?_
  refine z_cV0 dX1_move_98 ml_X1_31 (sp_push hf0 (show _ = nI (e + 1) by simp [z_up]) (by omega)) hf.1 ⟨by decide, rfl⟩ rfl rfl (Nat.le_of_ble_eq_true rfl) ?_
  refine z_goto (tgt := 139) dX1_move_101 (by decide) ?_
  exact z_vret dX1_move_139 rfl rfl rfl
set_option maxRecDepth 100000 in
set_option maxHeartbeats 4000000 in
theorem sp_mv10 {d : Nat} {σ : Nat → Nat → Int32} {τ : Nat → Nat → Int64} {f e : Nat} (hf0 : f = 6 ∨ f = 20) {x : Int32} (hd : σ f 2 = nI (e + 1)) (he : e < 6) : z_MV M_X1_move (d + 1) 0 0 [.ref f, .int (nI 10), .int x] (124, z_r0, σ, τ) (none) (124, z_r0, po σ f e, τ) := by
  refine z_MV.of pn_X1_move (Nat.le_of_ble_eq_true rfl) (by simp [Value.category]) rfl ?_
  show z_V _ _ _ _ _ _ _ _ _ [_, _, _, _, _, _] _ _
  have hf := fr_k hf0
  refine z_iload_n dX1_move_0 rfl rfl ?_
  refine z_tableIn (off := 103) (tgt := 104) dX1_move_1 (by decide) (by decide) (by decide) (by decide) ?_
  refine z_aload_n dX1_move_104 rfl rfl ?_
  refine z_cV1 dX1_move_105 ml_X1_35 (sp_pop hf0 hd he) hf.1 ⟨by decide, rfl⟩ rfl rfl (Nat.le_of_ble_eq_true rfl) ?_
  refine z_pop dX1_move_108 rfl ?_
  refine z_goto (tgt := 139) dX1_move_109 (by decide) ?_
  exact z_vret dX1_move_139 rfl rfl rfl
set_option maxRecDepth 100000 in
set_option maxHeartbeats 4000000 in
theorem sp_mv11 {d : Nat} {σ : Nat → Nat → Int32} {τ : Nat → Nat → Int64} {f e : Nat} (hf0 : f = 6 ∨ f = 20) {x : Int32} (hd : σ f 2 = nI (e + 2)) (he : e + 1 < 6) : z_MV M_X1_move (d + 1) 0 0 [.ref f, .int (nI 11), .int x] (124, z_r0, σ, τ) (none) (124, z_r0, pu (pu (po (po σ f (e + 1)) f e) f e (σ (f + 2) (e + 1))) f (e + 1) (po σ f (e + 1) (f + 2) e), τ) := by
  refine z_MV.of pn_X1_move (Nat.le_of_ble_eq_true rfl) (by simp [Value.category]) rfl ?_
  show z_V _ _ _ _ _ _ _ _ _ [_, _, _, _, _, _] _ _
  have hf := fr_k hf0
  refine z_iload_n dX1_move_0 rfl rfl ?_
  refine z_tableIn (off := 111) (tgt := 112) dX1_move_1 (by decide) (by decide) (by decide) (by decide) ?_
  refine z_aload_n dX1_move_112 rfl rfl ?_
  refine z_cV1 dX1_move_113 ml_X1_35 (sp_pop hf0 hd (by omega)) hf.1 ⟨by decide, rfl⟩ rfl rfl (Nat.le_of_ble_eq_true rfl) ?_
  refine z_istore dX1_move_116 (by decide) ?_
  show z_V _ _ _ _ _ _ _ _ _ [_, _, _, _, _, _] _ _
  refine z_aload_n dX1_move_118 rfl rfl ?_
  refine z_cV1 dX1_move_119 ml_X1_35 (sp_pop hf0 (show _ = nI (e + 1) by simp [z_up]) (by omega)) hf.1 ⟨by decide, rfl⟩ rfl rfl (Nat.le_of_ble_eq_true rfl) ?_
  refine z_istore dX1_move_122 (by decide) ?_
  show z_V _ _ _ _ _ _ _ _ _ [_, _, _, _, _, _] _ _
  refine z_aload_n dX1_move_124 rfl rfl ?_
  refine z_iload dX1_move_125 rfl ?_
  refine z_cV0 dX1_move_127 ml_X1_31 (sp_push hf0 (show _ = nI e by simp [z_up]) (by omega)) hf.1 ⟨by decide, rfl⟩ rfl rfl (Nat.le_of_ble_eq_true rfl) ?_
  refine z_aload_n dX1_move_130 rfl rfl ?_
  refine z_iload dX1_move_131 rfl ?_
  refine z_cV0 dX1_move_133 ml_X1_31 (sp_push hf0 (show _ = nI (e + 1) by simp [z_up]) (by omega)) hf.1 ⟨by decide, rfl⟩ rfl rfl (Nat.le_of_ble_eq_true rfl) ?_
  refine z_goto (tgt := 139) dX1_move_136 (by decide) ?_
  exact z_vret dX1_move_139 rfl rfl rfl
set_option maxRecDepth 100000 in
set_option maxHeartbeats 4000000 in
theorem sp_mv13 {d : Nat} {σ : Nat → Nat → Int32} {τ : Nat → Nat → Int64} {f e : Nat} (hf0 : f = 6 ∨ f = 20) {x : Int32} : z_MV M_X1_move (d + 1) 0 0 [.ref f, .int (nI 13), .int x] (124, z_r0, σ, τ) (none) (124, z_r0, σ, τ) := by
  refine z_MV.of pn_X1_move (Nat.le_of_ble_eq_true rfl) (by simp [Value.category]) rfl ?_
  show z_V _ _ _ _ _ _ _ _ _ [_, _, _, _, _, _] _ _
  have hf := fr_k hf0
  refine z_iload_n dX1_move_0 rfl rfl ?_
  refine z_tableOut (tgt := 139) dX1_move_1 (by decide) (by decide) ?_
  exact z_vret dX1_move_139 rfl rfl rfl
set_option maxRecDepth 100000 in
set_option maxHeartbeats 4000000 in
theorem has_yes_loop {d : Nat} {σ : Nat → Nat → Int32} {τ : Nat → Nat → Int64} {t n : Nat} {x y : Int32} (ht : t < 4) (hn : σ (tr t + 6) 5 = nI n) {g0 : Nat} (h15 : n ≤ 15) (hg : g0 < n) (hm : σ (tr t + 7) g0 = x ∧ σ (tr t + 8) g0 = y) (hno : ∀ j, j < g0 → ¬ (σ (tr t + 7) j = x ∧ σ (tr t + 8) j = y)) : ∀ (m v : Nat), v ≤ g0 → g0 - v < m → z_V M_X3_has d 0 0 0 0 (some (.int 1)) (124, z_r0, σ, τ) 2 [some (.ref (tr t + 6)), some (.int x), some (.int y), some (.int (nI v))] [] (124, z_r0, σ, τ) := by
  have hk := tr_k ht
  have hr := tr_r ht
  intro m
  induction m with
  | zero => intro v _ h; omega
  | succ m ih =>
    intro v hv1 hv2
    refine z_iload_n dX3_has_2 rfl rfl ?_
    refine z_aload_n dX3_has_3 rfl rfl ?_
    refine z_getI dX3_has_4 fl_X3_28 rfl hk.2.2.2.2.2.2.1 hn ?_
    refine z_icmp_ge (tgt := 38) dX3_has_7 (by decide) (fun c_ => absurd c_ (nI_ge (show v < n by omega) (by omega))) (fun _ => ?_)
    refine z_aload_n dX3_has_10 rfl rfl ?_
    refine z_getR dX3_has_11 fl_X3_9 rfl hk.2.2.2.2.2.2.1 hr.2.2.2.2.2.2.2.2.2.2.2.1 ?_
    refine z_iload_n dX3_has_14 rfl rfl ?_
    refine z_iald dX3_has_15 hk.2.2.2.2.2.2.2.1 rfl (by omega) rfl ?_
    refine z_iload_n dX3_has_16 rfl rfl ?_
    refine z_icmp_ne (tgt := 32) dX3_has_17 (by decide) (fun c17 => ?_) (fun c17 => ?_)
    · refine z_iinc dX3_has_32 rfl (nI_i _) (by decide) ?_
      show z_V _ _ _ _ _ _ _ _ _ [_, _, _, _] _ _
      refine z_goto (tgt := 2) dX3_has_35 (by decide) ?_
      have hne : v ≠ g0 := by
        intro q
        subst q
        obtain ⟨m1, m2⟩ := hm
        first | exact c17 m1 | exact c27 m2
      exact ih (v + 1) (by omega) (by omega)
    · refine z_aload_n dX3_has_20 rfl rfl ?_
      refine z_getR dX3_has_21 fl_X3_15 rfl hk.2.2.2.2.2.2.1 hr.2.2.2.2.2.2.2.2.2.2.2.2.1 ?_
      refine z_iload_n dX3_has_24 rfl rfl ?_
      refine z_zald dX3_has_25 hk.2.2.2.2.2.2.2.2.1 rfl (by omega) rfl ?_
      refine z_iload_n dX3_has_26 rfl rfl ?_
      refine z_icmp_ne (tgt := 32) dX3_has_27 (by decide) (fun c27 => ?_) (fun c27 => ?_)
      · refine z_iinc dX3_has_32 rfl (nI_i _) (by decide) ?_
        show z_V _ _ _ _ _ _ _ _ _ [_, _, _, _] _ _
        refine z_goto (tgt := 2) dX3_has_35 (by decide) ?_
        have hne : v ≠ g0 := by
          intro q
          subst q
          obtain ⟨m1, m2⟩ := hm
          first | exact c17 m1 | exact c27 m2
        exact ih (v + 1) (by omega) (by omega)
      · have hv : v = g0 := by
          rcases Nat.lt_or_ge v g0 with q | q
          · exact absurd ⟨c17, c27⟩ (hno v q)
          · omega
        subst hv
        refine z_iconst (v := 1) dX3_has_30 (by decide) ?_
        exact z_zret dX3_has_31 rfl (by first | exact Or.inl rfl | exact Or.inr rfl) rfl rfl
set_option maxRecDepth 100000 in
set_option maxHeartbeats 4000000 in
theorem sp_has_yes {d : Nat} {σ : Nat → Nat → Int32} {τ : Nat → Nat → Int64} {t n : Nat} {x y : Int32} (ht : t < 4) (hn : σ (tr t + 6) 5 = nI n) {g0 : Nat} (h15 : n ≤ 15) (hg : g0 < n) (hm : σ (tr t + 7) g0 = x ∧ σ (tr t + 8) g0 = y) (hno : ∀ j, j < g0 → ¬ (σ (tr t + 7) j = x ∧ σ (tr t + 8) j = y)) : z_MV M_X3_has d 0 0 [.ref (tr t + 6), .int x, .int y] (124, z_r0, σ, τ) (some (.int 1)) (124, z_r0, σ, τ) := by
  refine z_MV.of pn_X3_has (Nat.le_of_ble_eq_true rfl) (by simp [Value.category]) rfl ?_
  show z_V _ _ _ _ _ _ _ _ _ [_, _, _, _] _ _
  refine z_iconst (v := 0) dX3_has_0 (by decide) ?_
  refine z_istore_n dX3_has_1 rfl (by decide) ?_
  show z_V _ _ _ _ _ _ _ _ _ [_, _, _, _] _ _
  exact has_yes_loop ht hn h15 hg hm hno (g0 + 1) 0 (Nat.zero_le _) (by omega)
set_option maxRecDepth 100000 in
set_option maxHeartbeats 4000000 in
theorem has_no_loop {d : Nat} {σ : Nat → Nat → Int32} {τ : Nat → Nat → Int64} {t n : Nat} {x y : Int32} (ht : t < 4) (hn : σ (tr t + 6) 5 = nI n) (h15 : n ≤ 15) (hno : ∀ j, j < n → ¬ (σ (tr t + 7) j = x ∧ σ (tr t + 8) j = y)) : ∀ (m v : Nat), v ≤ n → n - v < m → z_V M_X3_has d 0 0 0 0 (some (.int 0)) (124, z_r0, σ, τ) 2 [some (.ref (tr t + 6)), some (.int x), some (.int y), some (.int (nI v))] [] (124, z_r0, σ, τ) := by
  have hk := tr_k ht
  have hr := tr_r ht
  intro m
  induction m with
  | zero => intro v _ h; omega
  | succ m ih =>
    intro v hv1 hv2
    refine z_iload_n dX3_has_2 rfl rfl ?_
    refine z_aload_n dX3_has_3 rfl rfl ?_
    refine z_getI dX3_has_4 fl_X3_28 rfl hk.2.2.2.2.2.2.1 hn ?_
    refine z_icmp_ge (tgt := 38) dX3_has_7 (by decide) (fun c7 => ?_) (fun c7 => ?_)
    · have e0 : n = v := by
        rcases Nat.lt_or_ge v n with q | q
        · exact absurd c7 (nI_ge q (by omega))
        · omega
      subst e0
      refine z_iconst (v := 0) dX3_has_38 (by decide) ?_
      exact z_zret dX3_has_39 rfl (by first | exact Or.inl rfl | exact Or.inr rfl) rfl rfl
    · have hlt : v < n := by
        rcases Nat.lt_or_ge v n with q | q
        · exact q
        · exact absurd (nI_le q (by omega)) c7
      refine z_aload_n dX3_has_10 rfl rfl ?_
      refine z_getR dX3_has_11 fl_X3_9 rfl hk.2.2.2.2.2.2.1 hr.2.2.2.2.2.2.2.2.2.2.2.1 ?_
      refine z_iload_n dX3_has_14 rfl rfl ?_
      refine z_iald dX3_has_15 hk.2.2.2.2.2.2.2.1 rfl (by omega) rfl ?_
      refine z_iload_n dX3_has_16 rfl rfl ?_
      refine z_icmp_ne (tgt := 32) dX3_has_17 (by decide) (fun c17 => ?_) (fun c17 => ?_)
      · refine z_iinc dX3_has_32 rfl (nI_i _) (by decide) ?_
        show z_V _ _ _ _ _ _ _ _ _ [_, _, _, _] _ _
        refine z_goto (tgt := 2) dX3_has_35 (by decide) ?_
        exact ih (v + 1) (by omega) (by omega)
      · refine z_aload_n dX3_has_20 rfl rfl ?_
        refine z_getR dX3_has_21 fl_X3_15 rfl hk.2.2.2.2.2.2.1 hr.2.2.2.2.2.2.2.2.2.2.2.2.1 ?_
        refine z_iload_n dX3_has_24 rfl rfl ?_
        refine z_zald dX3_has_25 hk.2.2.2.2.2.2.2.2.1 rfl (by omega) rfl ?_
        refine z_iload_n dX3_has_26 rfl rfl ?_
        refine z_icmp_ne (tgt := 32) dX3_has_27 (by decide) (fun c27 => ?_) (fun c27 => ?_)
        · refine z_iinc dX3_has_32 rfl (nI_i _) (by decide) ?_
          show z_V _ _ _ _ _ _ _ _ _ [_, _, _, _] _ _
          refine z_goto (tgt := 2) dX3_has_35 (by decide) ?_
          exact ih (v + 1) (by omega) (by omega)
        · exact absurd ⟨c17, c27⟩ (hno v hlt)
set_option maxRecDepth 100000 in
set_option maxHeartbeats 4000000 in
theorem sp_has_no {d : Nat} {σ : Nat → Nat → Int32} {τ : Nat → Nat → Int64} {t n : Nat} {x y : Int32} (ht : t < 4) (hn : σ (tr t + 6) 5 = nI n) (h15 : n ≤ 15) (hno : ∀ j, j < n → ¬ (σ (tr t + 7) j = x ∧ σ (tr t + 8) j = y)) : z_MV M_X3_has d 0 0 [.ref (tr t + 6), .int x, .int y] (124, z_r0, σ, τ) (some (.int 0)) (124, z_r0, σ, τ) := by
  refine z_MV.of pn_X3_has (Nat.le_of_ble_eq_true rfl) (by simp [Value.category]) rfl ?_
  show z_V _ _ _ _ _ _ _ _ _ [_, _, _, _] _ _
  refine z_iconst (v := 0) dX3_has_0 (by decide) ?_
  refine z_istore_n dX3_has_1 rfl (by decide) ?_
  show z_V _ _ _ _ _ _ _ _ _ [_, _, _, _] _ _
  exact has_no_loop ht hn h15 hno (n + 1) 0 (Nat.zero_le _) (by omega)
def gp1 (σ : Nat → Nat → Int32) (T g : Nat) (x y w : Int32) (e : Nat) : Nat → Nat → Int32 := z_up (z_up (z_up (z_up σ (T + 7) g x) (T + 8) g y) (T + 9) g w) (T + 10) g (nI e)
def gp2 (σ : Nat → Nat → Int32) (T g : Nat) : Nat → Nat → Int32 := z_row σ (T + 11) (va_cpy (σ 21) (σ (T + 11)) 0 (g * 12) 6)
def gp3 (σ : Nat → Nat → Int32) (T g e : Nat) : Nat → Nat → Int32 := z_row σ (T + 11) (va_cpy (σ 22) (σ (T + 11)) 0 (g * 12 + 6) e)
def putG (σ : Nat → Nat → Int32) (T g : Nat) (x y w : Int32) (e : Nat) : Nat → Nat → Int32 := z_up (gp3 (gp2 (gp1 σ T g x y w e) T g) T g e) (T + 6) 5 (nI (g + 1))
set_option maxRecDepth 100000 in
set_option maxHeartbeats 4000000 in
theorem sp_gput {d : Nat} {σ : Nat → Nat → Int32} {τ : Nat → Nat → Int64} {t g e : Nat} {x y w : Int32} (ht : t < 4) (hn : σ (tr t + 6) 5 = nI g) (hg : g < 15) (hy : y = 0 ∨ y = 1) (hd : σ 20 2 = nI e) (he : e ≤ 6) : z_MV M_X3_put d 0 0 [.ref (tr t + 6), .int x, .int y, .int w, .ref 20] (124, z_r0, σ, τ) (some (.int (nI g))) (124, z_r0, putG σ (tr t) g x y w e, τ) := by
  refine z_MV.of pn_X3_put (Nat.le_of_ble_eq_true rfl) (by simp [Value.category]) rfl ?_
  show z_V _ _ _ _ _ _ _ _ _ [_, _, _, _, _, _] _ _
  have hk := tr_k ht
  have hr := tr_r ht
  refine z_aload_n dX3_put_0 rfl rfl ?_
  refine z_getI dX3_put_1 fl_X3_28 rfl hk.2.2.2.2.2.2.1 hn ?_
  refine z_istore dX3_put_4 (by decide) ?_
  show z_V _ _ _ _ _ _ _ _ _ [_, _, _, _, _, _] _ _
  refine z_aload_n dX3_put_6 rfl rfl ?_
  refine z_getR dX3_put_7 fl_X3_9 rfl hk.2.2.2.2.2.2.1 hr.2.2.2.2.2.2.2.2.2.2.2.1 ?_
  refine z_iload dX3_put_10 rfl ?_
  refine z_iload_n dX3_put_12 rfl rfl ?_
  refine z_iast dX3_put_13 hk.2.2.2.2.2.2.2.1 rfl (by omega) ?_
  refine z_aload_n dX3_put_14 rfl rfl ?_
  refine z_getR dX3_put_15 fl_X3_15 rfl hk.2.2.2.2.2.2.1 hr.2.2.2.2.2.2.2.2.2.2.2.2.1 ?_
  refine z_iload dX3_put_18 rfl ?_
  refine z_iload_n dX3_put_20 rfl rfl ?_
  refine z_zast dX3_put_21 hk.2.2.2.2.2.2.2.2.1 rfl (by omega) hy ?_
  refine z_aload_n dX3_put_22 rfl rfl ?_
  refine z_getR dX3_put_23 fl_X3_19 rfl hk.2.2.2.2.2.2.1 hr.2.2.2.2.2.2.2.2.2.2.2.2.2.1 ?_
  refine z_iload dX3_put_26 rfl ?_
  refine z_iload_n dX3_put_28 rfl rfl ?_
  refine z_iast dX3_put_29 hk.2.2.2.2.2.2.2.2.2.1 rfl (by omega) ?_
  refine z_aload_n dX3_put_30 rfl rfl ?_
  refine z_getR dX3_put_31 fl_X3_22 rfl hk.2.2.2.2.2.2.1 hr.2.2.2.2.2.2.2.2.2.2.2.2.2.2.1 ?_
  refine z_iload dX3_put_34 rfl ?_
  refine z_aload dX3_put_36 rfl ?_
  refine z_getI dX3_put_38 fl_X3_32 rfl rfl (show _ = nI e by simp [z_up, hd, tr_ne (t := t) (show 20 < 28 by decide), tr_ne0 (t := t) (show 20 < 28 by decide)]) ?_
  refine z_iast dX3_put_41 hk.2.2.2.2.2.2.2.2.2.2.1 rfl (by omega) ?_
  refine z_aload dX3_put_42 rfl ?_
  refine z_getR dX3_put_44 fl_X3_37 rfl rfl rfl ?_
  refine z_iconst (v := 0) dX3_put_47 (by decide) ?_
  refine z_aload_n dX3_put_48 rfl rfl ?_
  refine z_getR dX3_put_49 fl_X3_25 rfl hk.2.2.2.2.2.2.1 hr.2.2.2.2.2.2.2.2.2.2.2.2.2.2.2 ?_
  refine z_iload dX3_put_52 rfl ?_
  refine z_bipush (v := nI 12) dX3_put_54 (by decide) ?_
  refine z_imul dX3_put_56 (pk_mul g 12) ?_
  refine z_bipush (v := nI 6) dX3_put_57 (by decide) ?_
  refine z_copy (sp := 0) (dp := g * 12) (k := 6) dX3_put_59 al_X3_40 rfl hk.2.2.2.2.2.2.2.2.2.2.2.1 nI_0.symm rfl rfl (by decide) (by omega) rfl ?_
  refine z_aload dX3_put_62 rfl ?_
  refine z_getR dX3_put_64 fl_X3_46 rfl rfl rfl ?_
  refine z_iconst (v := 0) dX3_put_67 (by decide) ?_
  refine z_aload_n dX3_put_68 rfl rfl ?_
  refine z_getR dX3_put_69 fl_X3_25 rfl hk.2.2.2.2.2.2.1 hr.2.2.2.2.2.2.2.2.2.2.2.2.2.2.2 ?_
  refine z_iload dX3_put_72 rfl ?_
  refine z_bipush (v := nI 12) dX3_put_74 (by decide) ?_
  refine z_imul dX3_put_76 (pk_mul g 12) ?_
  refine z_bipush (v := nI 6) dX3_put_77 (by decide) ?_
  refine z_iadd dX3_put_79 (nI_add _ _) ?_
  refine z_aload dX3_put_80 rfl ?_
  refine z_getI dX3_put_82 fl_X3_32 rfl rfl (show _ = nI e by simp [z_up, z_row, hd, tr_ne (t := t) (show 20 < 28 by decide), tr_ne0 (t := t) (show 20 < 28 by decide)]) ?_
  refine z_copy (sp := 0) (dp := g * 12 + 6) (k := e) dX3_put_85 al_X3_40 rfl hk.2.2.2.2.2.2.2.2.2.2.2.1 nI_0.symm rfl rfl (by omega) (by omega) rfl ?_
  refine z_aload_n dX3_put_88 rfl rfl ?_
  refine z_dup dX3_put_89 rfl ?_
  refine z_getI dX3_put_90 fl_X3_28 rfl hk.2.2.2.2.2.2.1 (show _ = nI g by simp [z_up, z_row, hn]) ?_
  refine z_iconst (v := 1) dX3_put_93 (by decide) ?_
  refine z_iadd dX3_put_94 (nI_1 _) ?_
  refine z_putI dX3_put_95 fl_X3_28 rfl rfl (Or.inl rfl) hk.2.2.2.2.2.2.1 ?_
  refine z_iload dX3_put_98 rfl ?_
  exact z_iret dX3_put_100 rfl rfl rfl
def pic (σ : Nat → Nat → Int32) (T g j : Nat) : Int32 := σ (T + 5) (tN (σ (T + 11) (g * 12 + j)))
def rst1 (σ : Nat → Nat → Int32) (T g i : Nat) : Nat → Nat → Int32 := rowF σ 7 (fun l => pic σ T g l) i
def rst2 (σ : Nat → Nat → Int32) (T g i : Nat) : Nat → Nat → Int32 := rowF (rst1 σ T g 6) 8 (fun s => pic σ T g (6 + s)) i
def rstG (σ : Nat → Nat → Int32) (T g e : Nat) : Nat → Nat → Int32 := z_up (z_up (rst2 σ T g e) 6 2 (nI e)) 6 3 (σ (T + 9) g)
set_option maxRecDepth 100000 in
set_option maxHeartbeats 4000000 in
theorem restore_loop2 {d : Nat} {σ : Nat → Nat → Int32} {τ : Nat → Nat → Int64} {t g e : Nat} (ht : t < 4) (hg : g < 15) (hd : σ (tr t + 10) g = nI e) (he : e ≤ 6) (hp : ∀ j, j < 6 + e → ∃ q, q < 36 ∧ σ (tr t + 11) (g * 12 + j) = nI q) : ∀ (m v : Nat), v ≤ e → e - v < m → z_V M_X3_restore d 0 0 0 0 none (124, z_r0, rstG σ (tr t) g e, τ) 44 [some (.ref (tr t + 6)), some (.int (nI g)), some (.ref (tr t + 5)), some (.ref 6), some (.int (nI (g * 12))), some (.int (nI v))] [] (124, z_r0, rst2 σ (tr t) g v, τ) := by
  have hk := tr_k ht
  have hr := tr_r ht
  intro m
  induction m with
  | zero => intro v _ h; omega
  | succ m ih =>
    intro v hv1 hv2
    refine z_iload dX3_restore_44 rfl ?_
    refine z_aload_n dX3_restore_46 rfl rfl ?_
    refine z_getR dX3_restore_47 fl_X3_22 rfl hk.2.2.2.2.2.2.1 hr.2.2.2.2.2.2.2.2.2.2.2.2.2.2.1 ?_
    refine z_iload_n dX3_restore_50 rfl rfl ?_
    refine z_iald dX3_restore_51 hk.2.2.2.2.2.2.2.2.2.2.1 rfl (by omega) (show _ = nI e by simp [rst2, rst1, rowF, z_row, hd, tr_ne (t := t) (show 7 < 28 by decide), tr_ne' (t := t) (show 7 < 28 by decide), tr_ne (t := t) (show 8 < 28 by decide), tr_ne' (t := t) (show 8 < 28 by decide)]) ?_
    refine z_icmp_ge (tgt := 83) dX3_restore_52 (by decide) (fun c52 => ?_) (fun c52 => ?_)
    · have e0 : e = v := by
        rcases Nat.lt_or_ge v e with q | q
        · exact absurd c52 (nI_ge q (by omega))
        · omega
      subst e0
      refine z_aload_n dX3_restore_83 rfl rfl ?_
      refine z_aload_n dX3_restore_84 rfl rfl ?_
      refine z_getR dX3_restore_85 fl_X3_22 rfl hk.2.2.2.2.2.2.1 hr.2.2.2.2.2.2.2.2.2.2.2.2.2.2.1 ?_
      refine z_iload_n dX3_restore_88 rfl rfl ?_
      refine z_iald dX3_restore_89 hk.2.2.2.2.2.2.2.2.2.2.1 rfl (by omega) (show _ = nI e by simp [rst2, rst1, rowF, z_row, hd, tr_ne (t := t) (show 7 < 28 by decide), tr_ne' (t := t) (show 7 < 28 by decide), tr_ne (t := t) (show 8 < 28 by decide), tr_ne' (t := t) (show 8 < 28 by decide)]) ?_
      refine z_putI dX3_restore_90 fl_X3_32 rfl rfl (Or.inl rfl) rfl ?_
      refine z_aload_n dX3_restore_93 rfl rfl ?_
      refine z_aload_n dX3_restore_94 rfl rfl ?_
      refine z_getR dX3_restore_95 fl_X3_19 rfl hk.2.2.2.2.2.2.1 hr.2.2.2.2.2.2.2.2.2.2.2.2.2.1 ?_
      refine z_iload_n dX3_restore_98 rfl rfl ?_
      refine z_iald dX3_restore_99 hk.2.2.2.2.2.2.2.2.2.1 rfl (by omega) (show _ = σ (tr t + 9) g by simp [z_up, rst2, rst1, rowF, z_row, tr_ne (t := t) (show 7 < 28 by decide), tr_ne' (t := t) (show 7 < 28 by decide), tr_ne (t := t) (show 8 < 28 by decide), tr_ne' (t := t) (show 8 < 28 by decide), tr_ne' (t := t) (show 6 < 28 by decide)]) ?_
      refine z_putI dX3_restore_100 fl_X3_49 rfl rfl (Or.inl rfl) rfl ?_
      exact z_vret dX3_restore_103 rfl rfl rfl
    · have hlt : v < e := by
        rcases Nat.lt_or_ge v e with q | q
        · exact q
        · exact absurd (nI_le q (by omega)) c52
      refine z_aload_n dX3_restore_55 rfl rfl ?_
      refine z_getR dX3_restore_56 fl_X3_46 rfl rfl rfl ?_
      refine z_iload dX3_restore_59 rfl ?_
      refine z_aload_n dX3_restore_61 rfl rfl ?_
      refine z_aload_n dX3_restore_62 rfl rfl ?_
      refine z_getR dX3_restore_63 fl_X3_25 rfl hk.2.2.2.2.2.2.1 hr.2.2.2.2.2.2.2.2.2.2.2.2.2.2.2 ?_
      refine z_iload dX3_restore_66 rfl ?_
      refine z_bipush (v := nI 6) dX3_restore_68 (by decide) ?_
      refine z_iadd dX3_restore_70 (nI_add _ _) ?_
      refine z_iload dX3_restore_71 rfl ?_
      refine z_iadd dX3_restore_73 (nI_add _ _) ?_
      obtain ⟨q, hq, hpq⟩ := hp (6 + v) (by omega)
      refine z_iald (j := g * 12 + 6 + v) dX3_restore_74 hk.2.2.2.2.2.2.2.2.2.2.2.1 rfl (by omega) (show _ = nI q by simp only [rst2, rst1]; rw [rowF_ne _ _ _ (tr_ne' (by decide) _), rowF_ne _ _ _ (tr_ne' (by decide) _)]; exact (Nat.add_assoc (g * 12) 6 v) ▸ hpq) ?_
      refine z_iald dX3_restore_75 hk.2.2.2.2.2.1 rfl (by omega) (show _ = pic σ (tr t) g (6 + v) by simp only [rst2, rst1]; rw [rowF_ne _ _ _ (tr_ne' (by decide) _), rowF_ne _ _ _ (tr_ne' (by decide) _)]; unfold pic; rw [hpq, tN_nI (by omega)]) ?_
      refine z_iast dX3_restore_76 rfl rfl (by omega) ?_
      refine z_iinc dX3_restore_77 rfl (nI_i _) (by decide) ?_
      show z_V _ _ _ _ _ _ _ _ _ [_, _, _, _, _, _] _ _
      refine z_goto (tgt := 44) dX3_restore_80 (by decide) ?_
      rw [show z_up (rst2 σ (tr t) g v) 8 v (pic σ (tr t) g (6 + v)) = rst2 σ (tr t) g (v + 1) from rowF_s _ _ _ _]
      exact ih (v + 1) (by omega) (by omega)
set_option maxRecDepth 100000 in
set_option maxHeartbeats 4000000 in
theorem restore_loop1 {d : Nat} {σ : Nat → Nat → Int32} {τ : Nat → Nat → Int64} {t g e : Nat} (ht : t < 4) (hg : g < 15) (hd : σ (tr t + 10) g = nI e) (he : e ≤ 6) (hp : ∀ j, j < 6 + e → ∃ q, q < 36 ∧ σ (tr t + 11) (g * 12 + j) = nI q) : ∀ (m v : Nat), v ≤ 6 → 6 - v < m → z_V M_X3_restore d 0 0 0 0 none (124, z_r0, rstG σ (tr t) g e, τ) 9 [some (.ref (tr t + 6)), some (.int (nI g)), some (.ref (tr t + 5)), some (.ref 6), some (.int (nI (g * 12))), some (.int (nI v))] [] (124, z_r0, rst1 σ (tr t) g v, τ) := by
  have hk := tr_k ht
  have hr := tr_r ht
  intro m
  induction m with
  | zero => intro v _ h; omega
  | succ m ih =>
    intro v hv1 hv2
    refine z_iload dX3_restore_9 rfl ?_
    refine z_bipush (v := nI 6) dX3_restore_11 (by decide) ?_
    refine z_icmp_ge (tgt := 41) dX3_restore_13 (by decide) (fun c13 => ?_) (fun c13 => ?_)
    · have e0 : 6 = v := by
        rcases Nat.lt_or_ge v 6 with q | q
        · exact absurd c13 (nI_ge q (by omega))
        · omega
      subst e0
      refine z_iconst (v := 0) dX3_restore_41 (by decide) ?_
      refine z_istore dX3_restore_42 (by decide) ?_
      show z_V _ _ _ _ _ _ _ _ _ [_, _, _, _, _, _] _ _
      have h2 := restore_loop2 (d := d) (τ := τ) ht hg hd he hp (e + 1) 0 (Nat.zero_le _) (by omega)
      rw [show rst2 σ (tr t) g 0 = rst1 σ (tr t) g 6 from rowF_0 _ _ _] at h2
      exact h2
    · have hlt : v < 6 := by
        rcases Nat.lt_or_ge v 6 with q | q
        · exact q
        · exact absurd (nI_le q (by omega)) c13
      refine z_aload_n dX3_restore_16 rfl rfl ?_
      refine z_getR dX3_restore_17 fl_X3_37 rfl rfl rfl ?_
      refine z_iload dX3_restore_20 rfl ?_
      refine z_aload_n dX3_restore_22 rfl rfl ?_
      refine z_aload_n dX3_restore_23 rfl rfl ?_
      refine z_getR dX3_restore_24 fl_X3_25 rfl hk.2.2.2.2.2.2.1 hr.2.2.2.2.2.2.2.2.2.2.2.2.2.2.2 ?_
      refine z_iload dX3_restore_27 rfl ?_
      refine z_iload dX3_restore_29 rfl ?_
      refine z_iadd dX3_restore_31 (nI_add _ _) ?_
      obtain ⟨q, hq, hpq⟩ := hp v (by omega)
      refine z_iald (j := g * 12 + v) dX3_restore_32 hk.2.2.2.2.2.2.2.2.2.2.2.1 rfl (by omega) (show _ = nI q by simp only [rst1]; rw [rowF_ne _ _ _ (tr_ne' (by decide) _)]; exact hpq) ?_
      refine z_iald dX3_restore_33 hk.2.2.2.2.2.1 rfl (by omega) (show _ = pic σ (tr t) g v by simp only [rst1]; rw [rowF_ne _ _ _ (tr_ne' (by decide) _)]; unfold pic; rw [hpq, tN_nI (by omega)]) ?_
      refine z_iast dX3_restore_34 rfl rfl (by omega) ?_
      refine z_iinc dX3_restore_35 rfl (nI_i _) (by decide) ?_
      show z_V _ _ _ _ _ _ _ _ _ [_, _, _, _, _, _] _ _
      refine z_goto (tgt := 9) dX3_restore_38 (by decide) ?_
      rw [show z_up (rst1 σ (tr t) g v) 7 v (pic σ (tr t) g v) = rst1 σ (tr t) g (v + 1) from rowF_s _ _ _ _]
      exact ih (v + 1) (by omega) (by omega)
set_option maxRecDepth 100000 in
set_option maxHeartbeats 4000000 in
theorem sp_restore {d : Nat} {σ : Nat → Nat → Int32} {τ : Nat → Nat → Int64} {t g e : Nat} (ht : t < 4) (hg : g < 15) (hd : σ (tr t + 10) g = nI e) (he : e ≤ 6) (hp : ∀ j, j < 6 + e → ∃ q, q < 36 ∧ σ (tr t + 11) (g * 12 + j) = nI q) : z_MV M_X3_restore d 0 0 [.ref (tr t + 6), .int (nI g), .ref (tr t + 5), .ref 6] (124, z_r0, σ, τ) (none) (124, z_r0, rstG σ (tr t) g e, τ) := by
  refine z_MV.of pn_X3_restore (Nat.le_of_ble_eq_true rfl) (by simp [Value.category]) rfl ?_
  show z_V _ _ _ _ _ _ _ _ _ [_, _, _, _, _, _] _ _
  have hk := tr_k ht
  have hr := tr_r ht
  refine z_iload_n dX3_restore_0 rfl rfl ?_
  refine z_bipush (v := nI 12) dX3_restore_1 (by decide) ?_
  refine z_imul dX3_restore_3 (pk_mul g 12) ?_
  refine z_istore dX3_restore_4 (by decide) ?_
  show z_V _ _ _ _ _ _ _ _ _ [_, _, _, _, _, _] _ _
  refine z_iconst (v := 0) dX3_restore_6 (by decide) ?_
  refine z_istore dX3_restore_7 (by decide) ?_
  show z_V _ _ _ _ _ _ _ _ _ [_, _, _, _, _, _] _ _
  have h2 := restore_loop1 (d := d) (τ := τ) ht hg hd he hp 7 0 (by omega) (by omega)
  rw [show rst1 σ (tr t) g 0 = σ from rowF_0 _ _ _] at h2
  exact h2
