/-! PART 25: Trace.countStaying, doHead, doBody -/
theorem b2i_t {p : Prop} [Decidable p] (h : p) : b2i p = 1 := if_pos h
theorem b2i_f {p : Prop} [Decidable p] (h : ¬ p) : b2i p = 0 := if_neg h
theorem b2i_01 (p : Prop) [Decidable p] : b2i p = 0 ∨ b2i p = 1 := by unfold b2i; split <;> simp
def cstF (σ : Nat → Nat → Int32) (T : Nat) : Nat → Int32
  | 0 => 0
  | i + 1 => cstF σ T i + b2i (σ (T + 12) i = nI i)
def okV (σ : Nat → Nat → Int32) (T v : Nat) : Prop := v < 36 ∧ ∃ op a b : Nat, σ (T + 2) v = nI op ∧ 3 ≤ op ∧ op ≤ 8 ∧ σ (T + 3) v = nI a ∧ a < 36 ∧ σ (T + 4) v = nI b ∧ b < 36
def wkS (σ : Nat → Nat → Int32) (T v : Nat) : Nat → Nat → Int32 := z_up σ (T + 5) v (wk (tN (σ (T + 2) v)) (σ (T + 5) (tN (σ (T + 3) v))) (σ (T + 5) (tN (σ (T + 4) v))))
theorem wkS_ne (σ : Nat → Nat → Int32) (T v : Nat) {a : Nat} (h : a ≠ T + 5) : wkS σ T v a = σ a := z_up_ne _ _ _ h
theorem sp_workS {d : Nat} {σ : Nat → Nat → Int32} {τ : Nat → Nat → Int64} {t v : Nat} (ht : t < 4) (hv : okV σ (tr t) v) : z_MV M_X9_work (d + 1) 0 0 [.ref (tr t + 1), .int (nI v)] (124, z_r0, σ, τ) none (124, z_r0, wkS σ (tr t) v, τ) := by
  obtain ⟨hv, op, a, b, h1, h2, h3, h4, h5, h6, h7⟩ := hv
  have := sp_work (d := d) (τ := τ) ht hv h1 h2 h3 h4 h5 h6 h7
  unfold wkS
  rw [h1, h4, h6, tN_nI (by omega), tN_nI (by omega), tN_nI (by omega)]
  exact this
def hdS (σ : Nat → Nat → Int32) (T : Nat) : Nat → Nat → Nat → Int32
  | 0 => σ
  | i + 1 => wkS (hdS σ T i) T (tN (σ (T + 13) i))
theorem hdS_ne (σ : Nat → Nat → Int32) (T i : Nat) {a : Nat} (h : a ≠ T + 5) : hdS σ T i a = σ a := by
  induction i with
  | zero => rfl
  | succ i ih => simp only [hdS]; rw [wkS_ne _ _ _ h, ih]
theorem okV_eq {σ σ' : Nat → Nat → Int32} {T v : Nat} (h : ∀ c, c ≤ 15 → c ≠ 5 → σ' (T + c) = σ (T + c)) (hv : okV σ T v) : okV σ' T v := by
  unfold okV at *
  rw [h 2 (by omega) (by omega), h 3 (by omega) (by omega), h 4 (by omega) (by omega)]
  exact hv
set_option maxRecDepth 100000 in
set_option maxHeartbeats 4000000 in
theorem cst_loop {d : Nat} {σ : Nat → Nat → Int32} {τ : Nat → Nat → Int64} {t : Nat} (ht : t < 4) : ∀ (m v : Nat), v ≤ 6 → 6 - v < m → z_V M_X7_countStaying (d + 1) 0 0 0 0 (some (.int (cstF σ (tr t) 6))) (124, z_r0, σ, τ) 4 [some (.ref (tr t)), some (.int (cstF σ (tr t) v)), some (.int (nI v))] [] (124, z_r0, σ, τ) := by
  have hk := tr_k ht
  have hr := tr_r ht
  intro m
  induction m with
  | zero => intro v _ h; omega
  | succ m ih =>
    intro v hv1 hv2
    refine z_iload_n dX7_countStaying_4 rfl rfl ?_
    refine z_bipush (v := nI 6) dX7_countStaying_5 (by decide) ?_
    refine z_icmp_ge (tgt := 32) dX7_countStaying_7 (by decide) (fun c7 => ?_) (fun c7 => ?_)
    · have e0 : 6 = v := by
        rcases Nat.lt_or_ge v 6 with q | q
        · exact absurd c7 (nI_ge q (by omega))
        · omega
      subst e0
      refine z_iload_n dX7_countStaying_32 rfl rfl ?_
      exact z_iret dX7_countStaying_33 rfl rfl rfl
    · have hlt : v < 6 := by
        rcases Nat.lt_or_ge v 6 with q | q
        · exact q
        · exact absurd (nI_le q (by omega)) c7
      refine z_iload_n dX7_countStaying_10 rfl rfl ?_
      refine z_aload_n dX7_countStaying_11 rfl rfl ?_
      refine z_iload_n dX7_countStaying_12 rfl rfl ?_
      refine z_cV1 dX7_countStaying_13 ml_X7_57 (sp_stays ht hlt) hk.1 ⟨by decide, rfl⟩ rfl rfl (Nat.le_of_ble_eq_true rfl) ?_
      refine z_if_eq (tgt := 23) dX7_countStaying_16 (by decide) (fun c16 => ?_) (fun c16 => ?_)
      · refine z_iconst (v := 0) dX7_countStaying_23 (by decide) ?_
        refine z_iadd dX7_countStaying_24 (show _ = cstF σ (tr t) (v + 1) by
      rcases b2i_01 (σ (tr t + 12) v = nI v) with hb | hb <;> simp_all [cstF]) ?_
        refine z_istore_n dX7_countStaying_25 rfl (by decide) ?_
        show z_V _ _ _ _ _ _ _ _ _ [_, _, _] _ _
        refine z_iinc dX7_countStaying_26 rfl (nI_i _) (by decide) ?_
        show z_V _ _ _ _ _ _ _ _ _ [_, _, _] _ _
        refine z_goto (tgt := 4) dX7_countStaying_29 (by decide) ?_
        exact ih (v + 1) (by omega) (by omega)
      · refine z_iconst (v := 1) dX7_countStaying_19 (by decide) ?_
        refine z_goto (tgt := 24) dX7_countStaying_20 (by decide) ?_
        refine z_iadd dX7_countStaying_24 (show _ = cstF σ (tr t) (v + 1) by
      rcases b2i_01 (σ (tr t + 12) v = nI v) with hb | hb <;> simp_all [cstF]) ?_
        refine z_istore_n dX7_countStaying_25 rfl (by decide) ?_
        show z_V _ _ _ _ _ _ _ _ _ [_, _, _] _ _
        refine z_iinc dX7_countStaying_26 rfl (nI_i _) (by decide) ?_
        show z_V _ _ _ _ _ _ _ _ _ [_, _, _] _ _
        refine z_goto (tgt := 4) dX7_countStaying_29 (by decide) ?_
        exact ih (v + 1) (by omega) (by omega)
set_option maxRecDepth 100000 in
set_option maxHeartbeats 4000000 in
theorem sp_countStaying {d : Nat} {σ : Nat → Nat → Int32} {τ : Nat → Nat → Int64} {t : Nat} (ht : t < 4) : z_MV M_X7_countStaying (d + 1) 0 0 [.ref (tr t)] (124, z_r0, σ, τ) (some (.int (cstF σ (tr t) 6))) (124, z_r0, σ, τ) := by
  refine z_MV.of pn_X7_countStaying (Nat.le_of_ble_eq_true rfl) (by simp [Value.category]) rfl ?_
  show z_V _ _ _ _ _ _ _ _ _ [_, _, _] _ _
  have hk := tr_k ht
  have hr := tr_r ht
  refine z_iconst (v := 0) dX7_countStaying_0 (by decide) ?_
  refine z_istore_n dX7_countStaying_1 rfl (by decide) ?_
  show z_V _ _ _ _ _ _ _ _ _ [_, _, _] _ _
  refine z_iconst (v := 0) dX7_countStaying_2 (by decide) ?_
  refine z_istore_n dX7_countStaying_3 rfl (by decide) ?_
  show z_V _ _ _ _ _ _ _ _ _ [_, _, _] _ _
  exact cst_loop ht 7 0 (by omega) (by omega)
set_option maxRecDepth 100000 in
set_option maxHeartbeats 4000000 in
theorem doHead_loop {d : Nat} {σ : Nat → Nat → Int32} {τ : Nat → Nat → Int64} {t : Nat} (ht : t < 4) {n : Nat} (hn : σ (tr t) 4 = nI n) (h30 : n ≤ 30) (hh : ∀ v, v < n → ∃ q, σ (tr t + 13) v = nI q ∧ okV σ (tr t) q) : ∀ (m v : Nat), v ≤ n → n - v < m → z_V M_X7_doHead (d + 2) 0 0 0 0 none (124, z_r0, z_up (hdS σ (tr t) n) 11 3 (σ 11 3 + nI n), τ) 2 [some (.ref (tr t)), some (.ref 11), some (.int (nI v))] [] (124, z_r0, hdS σ (tr t) v, τ) := by
  have hk := tr_k ht
  have hr := tr_r ht
  intro m
  induction m with
  | zero => intro v _ h; omega
  | succ m ih =>
    intro v hv1 hv2
    refine z_iload_n dX7_doHead_2 rfl rfl ?_
    refine z_aload_n dX7_doHead_3 rfl rfl ?_
    refine z_getI dX7_doHead_4 fl_X7_48 rfl hk.1 (show _ = nI n by rw [hdS_ne _ _ _ (by omega)]; exact hn) ?_
    refine z_icmp_ge (tgt := 29) dX7_doHead_7 (by decide) (fun c7 => ?_) (fun c7 => ?_)
    · have e0 : n = v := by
        rcases Nat.lt_or_ge v n with q | q
        · exact absurd c7 (nI_ge q (by omega))
        · omega
      subst e0
      refine z_aload_n dX7_doHead_29 rfl rfl ?_
      refine z_dup dX7_doHead_30 rfl ?_
      refine z_getI dX7_doHead_31 fl_X7_65 rfl rfl (show _ = σ 11 3 by rw [hdS_ne _ _ _ (tr_ne (by decide) 5)]) ?_
      refine z_aload_n dX7_doHead_34 rfl rfl ?_
      refine z_getI dX7_doHead_35 fl_X7_48 rfl hk.1 (show _ = nI n by rw [hdS_ne _ _ _ (by omega)]; exact hn) ?_
      refine z_iadd dX7_doHead_38 rfl ?_
      refine z_putI dX7_doHead_39 fl_X7_65 rfl rfl (Or.inl rfl) rfl ?_
      exact z_vret dX7_doHead_42 rfl rfl rfl
    · have hlt : v < n := by
        rcases Nat.lt_or_ge v n with q | q
        · exact q
        · exact absurd (nI_le q (by omega)) c7
      refine z_aload_n dX7_doHead_10 rfl rfl ?_
      refine z_getR dX7_doHead_11 fl_X7_12 rfl hk.1 hr.2.1 ?_
      refine z_aload_n dX7_doHead_14 rfl rfl ?_
      refine z_getR dX7_doHead_15 fl_X7_29 rfl hk.1 hr.2.2.2.2.1 ?_
      refine z_iload_n dX7_doHead_18 rfl rfl ?_
      obtain ⟨q, hq, ok⟩ := hh v hlt
      refine z_iald dX7_doHead_19 hk.2.2.2.2.2.2.2.2.2.2.2.2.2.1 rfl (by omega) (show _ = nI q by rw [hdS_ne _ _ _ (by omega)]; exact hq) ?_
      refine z_cV0 dX7_doHead_20 ml_X7_61 (sp_workS ht (okV_eq (fun c h1 h2 => hdS_ne _ _ _ (by omega)) ok)) hk.2.1 ⟨by decide, rfl⟩ rfl rfl (Nat.le_of_ble_eq_true rfl) ?_
      refine z_iinc dX7_doHead_23 rfl (nI_i _) (by decide) ?_
      show z_V _ _ _ _ _ _ _ _ _ [_, _, _] _ _
      refine z_goto (tgt := 2) dX7_doHead_26 (by decide) ?_
      have e1 : hdS σ (tr t) (v + 1) = wkS (hdS σ (tr t) v) (tr t) q := by
        simp only [hdS]
        rw [hq, tN_nI (by have := ok.1; omega)]
      rw [← e1]
      exact ih (v + 1) (by omega) (by omega)
set_option maxRecDepth 100000 in
set_option maxHeartbeats 4000000 in
theorem sp_doHead {d : Nat} {σ : Nat → Nat → Int32} {τ : Nat → Nat → Int64} {t : Nat} (ht : t < 4) {n : Nat} (hn : σ (tr t) 4 = nI n) (h30 : n ≤ 30) (hh : ∀ v, v < n → ∃ q, σ (tr t + 13) v = nI q ∧ okV σ (tr t) q) : z_MV M_X7_doHead (d + 2) 0 0 [.ref (tr t), .ref 11] (124, z_r0, σ, τ) (none) (124, z_r0, z_up (hdS σ (tr t) n) 11 3 (σ 11 3 + nI n), τ) := by
  refine z_MV.of pn_X7_doHead (Nat.le_of_ble_eq_true rfl) (by simp [Value.category]) rfl ?_
  show z_V _ _ _ _ _ _ _ _ _ [_, _, _] _ _
  have hk := tr_k ht
  have hr := tr_r ht
  refine z_iconst (v := 0) dX7_doHead_0 (by decide) ?_
  refine z_istore_n dX7_doHead_1 rfl (by decide) ?_
  show z_V _ _ _ _ _ _ _ _ _ [_, _, _] _ _
  exact doHead_loop ht hn h30 hh (n + 1) 0 (Nat.zero_le _) (by omega)
def gvS (σ : Nat → Nat → Int32) (x : Int32) : Nat → Nat → Int32 := z_up (z_up (z_up σ 9 1 (nI ((tN (σ 9 1) + 1) % 30))) 10 ((tN (σ 9 1) + 1) % 30) x) 9 2 (σ 9 2 + 1)
def tkS (σ : Nat → Nat → Int32) : Nat → Nat → Int32 := z_up σ 11 3 (σ 11 3 + 1)
def finS (σ : Nat → Nat → Int32) (T i : Nat) : Nat → Nat → Int32 := rowF σ 7 (fun l => σ (T + 5) (tN (σ (T + 12) l))) i
def hld (σ : Nat → Nat → Int32) (T g : Nat) : Prop := b2i (σ (T + 5) (tN (σ (T + 7) g)) ≠ 0) = σ (T + 8) g
def bdF (T : Nat) : Nat → Nat → (Nat → Nat → Int32) → Int32 × (Nat → Nat → Int32)
  | 0, _, σ => (1, finS σ T 6)
  | m + 1, b, σ =>
    if σ (T + 14) b = 0 then bdF T m (b + 1) (wkS (tkS σ) T (tN (σ (T + 15) b)))
    else if σ (T + 14) b = nI 2 then bdF T m (b + 1) (gvS (tkS σ) (σ (T + 5) (tN (σ (T + 15) b))))
    else if b2i (σ (T + 5) (tN (σ (T + 7) (tN (σ (T + 15) b)))) ≠ 0) = σ (T + 8) (tN (σ (T + 15) b)) then bdF T m (b + 1) (tkS σ)
    else (0, rstG (tkS σ) T (tN (σ (T + 15) b)) (tN (σ (T + 10) (tN (σ (T + 15) b)))))
def okG (σ : Nat → Nat → Int32) (T g : Nat) : Prop := g < 15 ∧ (∃ a, a < 36 ∧ σ (T + 7) g = nI a) ∧ ∃ e, e ≤ 6 ∧ σ (T + 10) g = nI e ∧ ∀ j, j < 6 + e → ∃ q, q < 36 ∧ σ (T + 11) (g * 12 + j) = nI q
def okB (σ : Nat → Nat → Int32) (T b : Nat) : Prop := ∃ q : Nat, q < 36 ∧ σ (T + 15) b = nI q ∧ ((σ (T + 14) b = 0 ∧ okV σ T q) ∨ σ (T + 14) b = nI 2 ∨ (σ (T + 14) b = 1 ∧ okG σ T q))
def bI (σ : Nat → Nat → Int32) (T n : Nat) : Prop := (∀ b, b < n → okB σ T b) ∧ σ T 9 = nI n ∧ (∃ e, e < 30 ∧ σ 9 1 = nI e) ∧ ∀ l, l < 6 → ∃ q, q < 36 ∧ σ (T + 12) l = nI q
theorem okG_eq {σ σ' : Nat → Nat → Int32} {T g : Nat} (h : ∀ c, c ≤ 15 → c ≠ 5 → σ' (T + c) = σ (T + c)) (hv : okG σ T g) : okG σ' T g := by
  unfold okG at *
  rw [h 7 (by omega) (by omega), h 10 (by omega) (by omega), h 11 (by omega) (by omega)]
  exact hv
theorem okB_eq {σ σ' : Nat → Nat → Int32} {T b : Nat} (h : ∀ c, c ≤ 15 → c ≠ 5 → σ' (T + c) = σ (T + c)) (hv : okB σ T b) : okB σ' T b := by
  obtain ⟨q, h0, h1, h2⟩ := hv
  refine ⟨q, h0, ?_, ?_⟩
  · rw [h 15 (by omega) (by omega)]; exact h1
  · rw [h 14 (by omega) (by omega)]
    rcases h2 with ⟨a, b⟩ | h2 | ⟨a, b⟩
    · exact Or.inl ⟨a, okV_eq h b⟩
    · exact Or.inr (Or.inl h2)
    · exact Or.inr (Or.inr ⟨a, okG_eq h b⟩)
theorem bI_eq {σ σ' : Nat → Nat → Int32} {T n : Nat} (h : ∀ c, c ≤ 15 → c ≠ 5 → σ' (T + c) = σ (T + c)) (he : ∃ e, e < 30 ∧ σ' 9 1 = nI e) (hv : bI σ T n) : bI σ' T n := by
  refine ⟨fun b hb => okB_eq h (hv.1 b hb), ?_, he, ?_⟩
  · have := h 0 (by omega) (by omega)
    rw [Nat.add_zero] at this
    rw [this]
    exact hv.2.1
  · rw [h 12 (by omega) (by omega)]; exact hv.2.2.2
theorem bI_tk {σ : Nat → Nat → Int32} {t n : Nat} (hv : bI σ (tr t) n) : bI (tkS σ) (tr t) n := bI_eq (fun c _ _ => z_up_ne _ _ _ (tr_ne' (by decide) c)) (by
  obtain ⟨e, h1, h2⟩ := hv.2.2.1
  exact ⟨e, h1, by rw [tkS, z_up_o _ _ (Or.inl (by decide))]; exact h2⟩) hv
theorem bI_wk {σ : Nat → Nat → Int32} {t n q : Nat} (hv : bI σ (tr t) n) : bI (wkS σ (tr t) q) (tr t) n := bI_eq (fun c _ h => wkS_ne _ _ _ (by omega)) (by
  obtain ⟨e, h1, h2⟩ := hv.2.2.1
  exact ⟨e, h1, by rw [wkS_ne _ _ _ (tr_ne (by decide) 5)]; exact h2⟩) hv
theorem bI_gv {σ : Nat → Nat → Int32} {t n : Nat} {x : Int32} (hv : bI σ (tr t) n) : bI (gvS σ x) (tr t) n := bI_eq (fun c _ h => by
  unfold gvS
  rw [z_up_ne _ _ _ (tr_ne' (by decide) c), z_up_ne _ _ _ (tr_ne' (by decide) c), z_up_ne _ _ _ (tr_ne' (by decide) c)]) ⟨(tN (σ 9 1) + 1) % 30, Nat.mod_lt _ (by decide), by simp [gvS, z_up]⟩ hv
theorem tkS_t {σ : Nat → Nat → Int32} {t c : Nat} : tkS σ (tr t + c) = σ (tr t + c) := z_up_ne _ _ _ (tr_ne' (by decide) c)
theorem sp_giveS {d : Nat} {σ : Nat → Nat → Int32} {τ : Nat → Nat → Int64} {x : Int32} (he : ∃ e, e < 30 ∧ σ 9 1 = nI e) : z_MV M_X2_give d 0 0 [.ref 9, .int x] (124, z_r0, σ, τ) none (124, z_r0, gvS σ x, τ) := by
  obtain ⟨e, h1, h2⟩ := he
  have := sp_give (d := d) (τ := τ) (x := x) h2 h1
  unfold gvS
  rw [h2, tN_nI (by omega)]
  exact this
set_option maxRecDepth 100000 in
set_option maxHeartbeats 4000000 in
theorem doBody_fin {d : Nat} {σ : Nat → Nat → Int32} {τ : Nat → Nat → Int64} {t n : Nat} (ht : t < 4) {w5 : Option Value} (hI : bI σ (tr t) n) : ∀ (m v : Nat), v ≤ 6 → 6 - v < m → z_V M_X7_doBody (d + 2) 0 0 0 0 (some (.int 1)) (124, z_r0, finS σ (tr t) 6, τ) 128 [some (.ref (tr t)), some (.ref 6), some (.ref 9), some (.ref 11), some (.int (nI v)), w5] [] (124, z_r0, finS σ (tr t) v, τ) := by
  have hk := tr_k ht
  have hr := tr_r ht
  intro m
  induction m with
  | zero => intro v _ h; omega
  | succ m ih =>
    intro v hv1 hv2
    refine z_iload dX7_doBody_128 rfl ?_
    refine z_bipush (v := nI 6) dX7_doBody_130 (by decide) ?_
    refine z_icmp_ge (tgt := 163) dX7_doBody_132 (by decide) (fun c132 => ?_) (fun c132 => ?_)
    · have e0 : 6 = v := by
        rcases Nat.lt_or_ge v 6 with q | q
        · exact absurd c132 (nI_ge q (by omega))
        · omega
      subst e0
      refine z_iconst (v := 1) dX7_doBody_163 (by decide) ?_
      exact z_zret dX7_doBody_164 rfl (by first | exact Or.inl rfl | exact Or.inr rfl) rfl rfl
    · have hlt : v < 6 := by
        rcases Nat.lt_or_ge v 6 with q | q
        · exact q
        · exact absurd (nI_le q (by omega)) c132
      refine z_aload_n dX7_doBody_135 rfl rfl ?_
      refine z_getR dX7_doBody_136 fl_X7_86 rfl rfl rfl ?_
      refine z_iload dX7_doBody_139 rfl ?_
      refine z_aload_n dX7_doBody_141 rfl rfl ?_
      refine z_getR dX7_doBody_142 fl_X7_12 rfl hk.1 hr.2.1 ?_
      refine z_getR dX7_doBody_145 fl_X7_70 rfl hk.2.1 hr.2.2.2.2.2.2.2.2.2.2.1 ?_
      refine z_aload_n dX7_doBody_148 rfl rfl ?_
      refine z_getR dX7_doBody_149 fl_X7_25 rfl hk.1 hr.2.2.2.1 ?_
      refine z_iload dX7_doBody_152 rfl ?_
      obtain ⟨q, hq, hpq⟩ := hI.2.2.2 v hlt
      refine z_iald dX7_doBody_154 hk.2.2.2.2.2.2.2.2.2.2.2.2.1 rfl (by omega) (show _ = nI q by rw [finS, rowF_ne _ _ _ (tr_ne' (by decide) _)]; exact hpq) ?_
      refine z_iald dX7_doBody_155 hk.2.2.2.2.2.1 rfl (by omega) (show _ = σ (tr t + 5) (tN (σ (tr t + 12) v)) by rw [finS, rowF_ne _ _ _ (tr_ne' (by decide) _), hpq, tN_nI (by omega)]) ?_
      refine z_iast dX7_doBody_156 rfl rfl (by omega) ?_
      refine z_iinc dX7_doBody_157 rfl (nI_i _) (by decide) ?_
      show z_V _ _ _ _ _ _ _ _ _ [_, _, _, _, _, _] _ _
      refine z_goto (tgt := 128) dX7_doBody_160 (by decide) ?_
      rw [show z_up (finS σ (tr t) v) 7 v (σ (tr t + 5) (tN (σ (tr t + 12) v))) = finS σ (tr t) (v + 1) from rowF_s _ _ _ _]
      exact ih (v + 1) (by omega) (by omega)
set_option maxRecDepth 100000 in
set_option maxHeartbeats 4000000 in
theorem doBody_loop {d : Nat} {τ : Nat → Nat → Int64} {t n : Nat} (ht : t < 4) (hn : n ≤ 30) : ∀ (m v : Nat) (σ : Nat → Nat → Int32) (w5 : Option Value), bI σ (tr t) n → v + m = n → z_V M_X7_doBody (d + 2) 0 0 0 0 (some (.int (bdF (tr t) m v σ).1)) (124, z_r0, (bdF (tr t) m v σ).2, τ) 3 [some (.ref (tr t)), some (.ref 6), some (.ref 9), some (.ref 11), some (.int (nI v)), w5] [] (124, z_r0, σ, τ) := by
  have hk := tr_k ht
  have hr := tr_r ht
  intro m
  induction m using Nat.strongRecOn with
  | ind m ih =>
    intro v σ w5 hI hv
    refine z_iload dX7_doBody_3 rfl ?_
    refine z_aload_n dX7_doBody_5 rfl rfl ?_
    refine z_getI dX7_doBody_6 fl_X7_51 rfl hk.1 hI.2.1 ?_
    refine z_icmp_ge (tgt := 125) dX7_doBody_9 (by decide) (fun c9 => ?_) (fun c9 => ?_)
    · have e0 : m = 0 := by
        rcases Nat.lt_or_ge v n with q | q
        · exact absurd c9 (nI_ge q (by omega))
        · omega
      subst e0
      refine z_iconst (v := 0) dX7_doBody_125 (by decide) ?_
      refine z_istore dX7_doBody_126 (by decide) ?_
      show z_V _ _ _ _ _ _ _ _ _ [_, _, _, _, _, _] _ _
      have h2 := doBody_fin (d := d) (τ := τ) (w5 := w5) ht hI 7 0 (by omega) (by omega)
      rw [show finS σ (tr t) 0 = σ from rowF_0 _ _ _] at h2
      exact h2
    · have hlt : v < n := by
        rcases Nat.lt_or_ge v n with q | q
        · exact q
        · exact absurd (nI_le q (by omega)) c9
      obtain ⟨m, rfl⟩ : ∃ k, m = k + 1 := ⟨m - 1, by omega⟩
      obtain ⟨q, h36, hq, hcs⟩ := hI.1 v hlt
      have hq2 : tN (σ (tr t + 15) v) = q := by rw [hq, tN_nI (by omega)]
      have hIt := bI_tk hI
      refine z_aload_n dX7_doBody_12 rfl rfl ?_
      refine z_getR dX7_doBody_13 fl_X7_35 rfl hk.1 hr.2.2.2.2.2.2.1 ?_
      refine z_iload dX7_doBody_16 rfl ?_
      refine z_iald dX7_doBody_18 hk.2.2.2.2.2.2.2.2.2.2.2.2.2.2.2 rfl (by omega) hq ?_
      refine z_istore dX7_doBody_19 (by decide) ?_
      show z_V _ _ _ _ _ _ _ _ _ [_, _, _, _, _, _] _ _
      refine z_aload_n dX7_doBody_21 rfl rfl ?_
      refine z_dup dX7_doBody_22 rfl ?_
      refine z_getI dX7_doBody_23 fl_X7_65 rfl rfl rfl ?_
      refine z_iconst (v := 1) dX7_doBody_26 (by decide) ?_
      refine z_iadd dX7_doBody_27 rfl ?_
      refine z_putI dX7_doBody_28 fl_X7_65 rfl rfl (Or.inl rfl) rfl ?_
      refine z_aload_n dX7_doBody_31 rfl rfl ?_
      refine z_getR dX7_doBody_32 fl_X7_32 rfl hk.1 hr.2.2.2.2.2.1 ?_
      refine z_iload dX7_doBody_35 rfl ?_
      refine z_iald dX7_doBody_37 hk.2.2.2.2.2.2.2.2.2.2.2.2.2.2.1 rfl (by omega) (show _ = σ (tr t + 14) v by rw [z_up_ne _ _ _ (tr_ne' (by decide) 14)]) ?_
      refine z_if_ne (tgt := 53) dX7_doBody_38 (by decide) (fun c38 => ?_) (fun c38 => ?_)
      · refine z_aload_n dX7_doBody_53 rfl rfl ?_
        refine z_getR dX7_doBody_54 fl_X7_32 rfl hk.1 hr.2.2.2.2.2.1 ?_
        refine z_iload dX7_doBody_57 rfl ?_
        refine z_iald dX7_doBody_59 hk.2.2.2.2.2.2.2.2.2.2.2.2.2.2.1 rfl (by omega) (show _ = σ (tr t + 14) v by rw [z_up_ne _ _ _ (tr_ne' (by decide) 14)]) ?_
        refine z_iconst (v := nI 2) dX7_doBody_60 (by decide) ?_
        refine z_icmp_ne (tgt := 81) dX7_doBody_61 (by decide) (fun c61 => ?_) (fun c61 => ?_)
        · have okg : okG σ (tr t) q := by
            rcases hcs with ⟨h2, _⟩ | h2 | ⟨_, okg⟩
            · exact absurd h2 c38
            · exact absurd h2 c61
            · exact okg
          obtain ⟨h15, ⟨a, ha36, ha⟩, e, he6, he, hpp⟩ := id okg
          refine z_aload_n dX7_doBody_81 rfl rfl ?_
          refine z_getR dX7_doBody_82 fl_X7_21 rfl hk.1 hr.2.2.1 ?_
          refine z_iload dX7_doBody_85 rfl ?_
          refine z_aload_n dX7_doBody_87 rfl rfl ?_
          refine z_getR dX7_doBody_88 fl_X7_12 rfl hk.1 hr.2.1 ?_
          refine z_getR dX7_doBody_91 fl_X7_70 rfl hk.2.1 hr.2.2.2.2.2.2.2.2.2.2.1 ?_
          refine z_cV1 dX7_doBody_94 ml_X7_78 (sp_holds ht h15 (show _ = nI a by rw [z_up_ne _ _ _ (tr_ne' (by decide) 7)]; exact ha) ha36) hk.2.2.2.2.2.2.1 ⟨by decide, rfl⟩ rfl rfl (Nat.le_of_ble_eq_true rfl) ?_
          rw [z_up_ne σ 3 _ (tr_ne' (t := t) (show 11 < 28 by decide) 5), z_up_ne σ 3 _ (tr_ne' (t := t) (show 11 < 28 by decide) 8)]
          refine z_if_ne (tgt := 119) dX7_doBody_97 (by decide) (fun c97 => ?_) (fun c97 => ?_)
          · have hyes : b2i (σ (tr t + 5) (tN (σ (tr t + 7) q)) ≠ 0) = σ (tr t + 8) q := by
              rw [ha, tN_nI (by omega)]
              rcases Decidable.em (b2i (σ (tr t + 5) a ≠ 0) = σ (tr t + 8) q) with hh | hh
              · exact hh
              · exact absurd (b2i_f hh) c97
            have hbd : bdF (tr t) (m + 1) v σ = bdF (tr t) m (v + 1) (tkS σ) := by simp only [bdF]; rw [if_neg c38, if_neg c61, hq2, if_pos hyes]
            have hIn : bI (tkS σ) (tr t) n := hIt
            refine z_iinc dX7_doBody_119 rfl (nI_i _) (by decide) ?_
            show z_V _ _ _ _ _ _ _ _ _ [_, _, _, _, _, _] _ _
            refine z_goto (tgt := 3) dX7_doBody_122 (by decide) ?_
            rw [hbd]
            exact ih m (by omega) (v + 1) _ (some (.int (nI q))) hIn (by omega)
          · have hno : ¬ b2i (σ (tr t + 5) (tN (σ (tr t + 7) q)) ≠ 0) = σ (tr t + 8) q := by
              rw [ha, tN_nI (by omega)]
              intro hh
              exact absurd c97 (by rw [b2i_t hh]; decide)
            have hbd : bdF (tr t) (m + 1) v σ = (0, rstG (tkS σ) (tr t) q e) := by simp only [bdF]; rw [if_neg c38, if_neg c61, hq2, if_neg hno, he, tN_nI (by omega)]
            refine z_aload_n dX7_doBody_100 rfl rfl ?_
            refine z_getR dX7_doBody_101 fl_X7_21 rfl hk.1 hr.2.2.1 ?_
            refine z_iload dX7_doBody_104 rfl ?_
            refine z_aload_n dX7_doBody_106 rfl rfl ?_
            refine z_getR dX7_doBody_107 fl_X7_12 rfl hk.1 hr.2.1 ?_
            refine z_getR dX7_doBody_110 fl_X7_70 rfl hk.2.1 hr.2.2.2.2.2.2.2.2.2.2.1 ?_
            refine z_aload_n dX7_doBody_113 rfl rfl ?_
            refine z_cV0 dX7_doBody_114 ml_X7_82 (sp_restore (σ := tkS σ) ht h15 (show _ = nI e by rw [tkS_t]; exact he) he6 (by rw [tkS_t]; exact hpp)) hk.2.2.2.2.2.2.1 ⟨by decide, rfl⟩ rfl rfl (Nat.le_of_ble_eq_true rfl) ?_
            refine z_iconst (v := 0) dX7_doBody_117 (by decide) ?_
            exact z_zret dX7_doBody_118 rfl (by first | exact Or.inl rfl | exact Or.inr rfl) (by rw [hbd]) (by rw [hbd])
        · refine z_aload_n dX7_doBody_64 rfl rfl ?_
          refine z_aload_n dX7_doBody_65 rfl rfl ?_
          refine z_getR dX7_doBody_66 fl_X7_12 rfl hk.1 hr.2.1 ?_
          refine z_getR dX7_doBody_69 fl_X7_70 rfl hk.2.1 hr.2.2.2.2.2.2.2.2.2.2.1 ?_
          refine z_iload dX7_doBody_72 rfl ?_
          refine z_iald dX7_doBody_74 hk.2.2.2.2.2.1 rfl (by omega) (show _ = σ (tr t + 5) q by rw [z_up_ne _ _ _ (tr_ne' (by decide) 5)]) ?_
          refine z_cV0 dX7_doBody_75 ml_X7_73 (sp_giveS hIt.2.2.1) rfl ⟨by decide, rfl⟩ rfl rfl (Nat.le_of_ble_eq_true rfl) ?_
          have hbd : bdF (tr t) (m + 1) v σ = bdF (tr t) m (v + 1) (gvS (tkS σ) (σ (tr t + 5) q)) := by simp only [bdF]; rw [if_neg c38, if_pos c61, hq2]
          have hIn : bI (gvS (tkS σ) (σ (tr t + 5) q)) (tr t) n := bI_gv hIt
          refine z_goto (tgt := 119) dX7_doBody_78 (by decide) ?_
          refine z_iinc dX7_doBody_119 rfl (nI_i _) (by decide) ?_
          show z_V _ _ _ _ _ _ _ _ _ [_, _, _, _, _, _] _ _
          refine z_goto (tgt := 3) dX7_doBody_122 (by decide) ?_
          rw [hbd]
          exact ih m (by omega) (v + 1) _ (some (.int (nI q))) hIn (by omega)
      · have ok : okV σ (tr t) q := by
          rcases hcs with ⟨_, ok⟩ | h2 | ⟨h2, _⟩
          · exact ok
          · rw [c38] at h2; exact absurd h2 (by decide)
          · rw [c38] at h2; exact absurd h2 (by decide)
        refine z_aload_n dX7_doBody_41 rfl rfl ?_
        refine z_getR dX7_doBody_42 fl_X7_12 rfl hk.1 hr.2.1 ?_
        refine z_iload dX7_doBody_45 rfl ?_
        refine z_cV0 dX7_doBody_47 ml_X7_61 (sp_workS ht (okV_eq (fun c _ _ => z_up_ne _ _ _ (tr_ne' (by decide) c)) ok)) hk.2.1 ⟨by decide, rfl⟩ rfl rfl (Nat.le_of_ble_eq_true rfl) ?_
        have hbd : bdF (tr t) (m + 1) v σ = bdF (tr t) m (v + 1) (wkS (tkS σ) (tr t) q) := by simp only [bdF]; rw [if_pos c38, hq2]
        have hIn : bI (wkS (tkS σ) (tr t) q) (tr t) n := bI_wk hIt
        refine z_goto (tgt := 119) dX7_doBody_50 (by decide) ?_
        refine z_iinc dX7_doBody_119 rfl (nI_i _) (by decide) ?_
        show z_V _ _ _ _ _ _ _ _ _ [_, _, _, _, _, _] _ _
        refine z_goto (tgt := 3) dX7_doBody_122 (by decide) ?_
        rw [hbd]
        exact ih m (by omega) (v + 1) _ (some (.int (nI q))) hIn (by omega)
set_option maxRecDepth 100000 in
set_option maxHeartbeats 4000000 in
theorem sp_doBody {d : Nat} {σ : Nat → Nat → Int32} {τ : Nat → Nat → Int64} {t n : Nat} (ht : t < 4) (hn : n ≤ 30) (hI : bI σ (tr t) n) : z_MV M_X7_doBody (d + 2) 0 0 [.ref (tr t), .ref 6, .ref 9, .ref 11] (124, z_r0, σ, τ) (some (.int (bdF (tr t) n 0 σ).1)) (124, z_r0, (bdF (tr t) n 0 σ).2, τ) := by
  refine z_MV.of pn_X7_doBody (Nat.le_of_ble_eq_true rfl) (by simp [Value.category]) rfl ?_
  show z_V _ _ _ _ _ _ _ _ _ [_, _, _, _, _, _] _ _
  have hk := tr_k ht
  have hr := tr_r ht
  refine z_iconst (v := 0) dX7_doBody_0 (by decide) ?_
  refine z_istore dX7_doBody_1 (by decide) ?_
  show z_V _ _ _ _ _ _ _ _ _ [_, _, _, _, _, _] _ _
  exact doBody_loop ht hn n 0 σ none hI (by omega)
