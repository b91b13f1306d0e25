/-! PART 80: needed and constant values, in both makers -/
section
variable {σ ρ : Nat → Nat → Int32} {T n t : Nat}
theorem nvS_12 (hT : 28 ≤ T) : ∀ i l, l < i → nvS σ T i (T + 12) l = σ 21 l := by
  intro i
  induction i with
  | zero => intro l hl; omega
  | succ i ih =>
    intro l hl
    unfold nvS
    rw [z_up_ne _ _ _ (by omega), z_up_row, upE]
    by_cases h : l = i
    · rw [if_pos h, h]
    · rw [if_neg h]; exact ih l (by omega)
theorem nvS_25 (hT : 28 ≤ T) : ∀ i, nvS σ T i 25 = mkd (σ 25) (σ 21) i := by
  intro i
  induction i with
  | zero => rfl
  | succ i ih =>
    unfold nvS mkd
    rw [z_up_row, z_up_ne _ _ _ (by omega), ih]
theorem mC_117 : ∀ i, mC ρ t i 117 = mkd (ρ 117) (ρ 120) i := by
  intro i
  induction i with
  | zero => unfold mC mkd; rw [z_up_ne _ _ _ (by omega)]
  | succ i ih =>
    unfold mC mkd
    rw [z_up_ne _ _ _ (by omega), z_up_ne _ _ _ (by omega), z_up_row, ih]
theorem mC_118 : ∀ i l, l < i → mC ρ t i 118 l = b2i (ρ 120 l = nI l) := by
  intro i
  induction i with
  | zero => intro l hl; omega
  | succ i ih =>
    intro l hl
    unfold mC
    rw [z_up_ne _ _ _ (by omega), z_up_row, z_up_ne _ _ _ (by omega), upE]
    by_cases h : l = i
    · rw [if_pos h, h]
    · rw [if_neg h]; exact ih l (by omega)
/-- how many locals stay -/
def stayF (f : Nat → Int32) : Nat → Int32
  | 0 => 0
  | i + 1 => stayF f i + b2i (f i = nI i)
theorem mC_112 : ∀ i, mC ρ t i 112 t = stayF (ρ 120) i := by
  intro i
  induction i with
  | zero => unfold mC stayF; rw [z_up_s]
  | succ i ih =>
    unfold mC stayF
    rw [z_up_s, ih]
theorem cst_st : ∀ i, cstF σ T i = stayF (σ (T + 12)) i := by
  intro i
  induction i with
  | zero => rfl
  | succ i ih => unfold cstF stayF; rw [ih]
theorem stayF_congr {f g : Nat → Int32} : ∀ i, (∀ l, l < i → f l = g l) → stayF f i = stayF g i := by
  intro i
  induction i with
  | zero => intro _; rfl
  | succ i ih =>
    intro h
    unfold stayF
    rw [ih (fun l hl => h l (by omega)), h i (by omega)]
/-- kinds and parts of the values, of the class -/
def KP (σ : Nat → Nat → Int32) (T n : Nat) : Prop := ∀ v, v < n → (v < 6 ∧ σ (T + 2) v = 1 ∧ σ (T + 3) v = nI v) ∨ (6 ≤ v ∧ σ (T + 2) v = 0) ∨ (6 ≤ v ∧ ∃ op a b, 3 ≤ op ∧ op ≤ 8 ∧ a < v ∧ b < v ∧ σ (T + 2) v = nI op ∧ σ (T + 3) v = nI a ∧ σ (T + 4) v = nI b)
theorem MV.kp (h : MV σ ρ T n) : KP σ T n := by
  intro v hv
  rcases h.2.2.2 v hv with g | g | g
  · exact Or.inl ⟨g.1, g.2.1, g.2.2.1⟩
  · exact Or.inr (Or.inl ⟨g.1, g.2.1⟩)
  · obtain ⟨h6, op, a, b, h3, h8, ha, hb, g1, g2, g3, _⟩ := g
    exact Or.inr (Or.inr ⟨h6, op, a, b, h3, h8, ha, hb, g1, g2, g3⟩)
theorem KP.to {σ' : Nat → Nat → Int32} (h : KP σ T n) (hs : ∀ i, 2 ≤ i → i ≤ 4 → σ' (T + i) = σ (T + i)) : KP σ' T n := by
  unfold KP at h ⊢
  rw [hs 2 (by omega) (by omega), hs 3 (by omega) (by omega), hs 4 (by omega) (by omega)]
  exact h
theorem op_ne {op : Nat} (h3 : 3 ≤ op) (h8 : op ≤ 8) : nI op ≠ 0 ∧ nI op ≠ 1 := ⟨nI_ne0 (by omega) (by omega), fun q => by rw [one_nI] at q; have := nI_ne' q (by omega) (by omega); omega⟩
/-- mpT marks only parts, which come before -/
theorem mpT_25 (h36 : n ≤ 36) (h : KP σ T n) {v : Nat} (hv : v < n) : (∀ u, v ≤ u → mpT σ T v 25 u = σ 25 u) ∧ (∀ u, ¬ σ 25 u = 0 → ¬ mpT σ T v 25 u = 0) ∧ (¬ σ 25 v = 0 → ∀ op a b, 3 ≤ op → op ≤ 8 → a < n → b < n → σ (T + 2) v = nI op → σ (T + 3) v = nI a → σ (T + 4) v = nI b → ¬ mpT σ T v 25 a = 0 ∧ ¬ mpT σ T v 25 b = 0) := by
  unfold mpT
  by_cases hc : σ 25 v ≠ 0 ∧ (σ (T + 2) v ≠ 0 ∧ σ (T + 2) v ≠ 1)
  · rw [if_pos hc]
    rcases h v hv with g | g | ⟨h6, op, a, b, h3, h8, ha, hb, g1, g2, g3⟩
    · exact absurd g.2.1 hc.2.2
    · exact absurd g.2 hc.2.1
    · have ea : tN (σ (T + 3) v) = a := by rw [g2, tN_nI (by omega)]
      have eb : tN (σ (T + 4) v) = b := by rw [g3, tN_nI (by omega)]
      rw [ea, eb, z_up_row, z_up_row]
      refine ⟨fun u hu => ?_, fun u hu => ?_, fun _ op' a' b' _ _ ha' hb' _ e2 e3 => ?_⟩
      · rw [upE, upE, if_neg (by omega), if_neg (by omega)]
      · rw [upE, upE]
        by_cases h1 : u = b
        · rw [if_pos h1]; decide
        · rw [if_neg h1]
          by_cases h2 : u = a
          · rw [if_pos h2]; decide
          · rw [if_neg h2]; exact hu
      · have x1 : a = a' := nI_inj (g2.symm.trans e2) (by omega) (by omega)
        have x2 : b = b' := nI_inj (g3.symm.trans e3) (by omega) (by omega)
        subst x1; subst x2
        rw [upE, upE, upE, upE, if_pos (c := b = b) rfl]
        refine ⟨?_, by decide⟩
        by_cases h1 : a = b
        · rw [if_pos h1]; decide
        · rw [if_neg h1, if_pos rfl]; decide
  · rw [if_neg hc]
    refine ⟨fun u _ => rfl, fun u hu => hu, fun hv0 op a b h3 h8 _ _ e1 _ _ => ?_⟩
    exact absurd ⟨hv0, by rw [e1]; exact (op_ne h3 h8).1, by rw [e1]; exact (op_ne h3 h8).2⟩ hc
/-- needed values' parts are needed -/
def clN (σ : Nat → Nat → Int32) (T n k : Nat) : Prop := ∀ v, k ≤ v → v < n → ¬ σ 25 v = 0 → ∀ op a b, 3 ≤ op → op ≤ 8 → a < n → b < n → σ (T + 2) v = nI op → σ (T + 3) v = nI a → σ (T + 4) v = nI b → ¬ σ 25 a = 0 ∧ ¬ σ 25 b = 0
theorem mpS_cl (hT : 28 ≤ T) (h36 : n ≤ 36) : ∀ (k : Nat) (σ : Nat → Nat → Int32), k ≤ n → KP σ T n → clN σ T n k → clN (mpS T k σ) T n 0 ∧ ∀ u, ¬ σ 25 u = 0 → ¬ mpS T k σ 25 u = 0 := by
  intro k
  induction k with
  | zero => intro σ _ _ hc; exact ⟨hc, fun u hu => hu⟩
  | succ k ih =>
    intro σ hk h hc
    obtain ⟨p1, p2, p3⟩ := mpT_25 h36 h (v := k) (by omega)
    have kp : KP (mpT σ T k) T n := h.to (fun i _ _ => mpT_ne _ _ _ (by omega))
    have e2 : mpT σ T k (T + 2) = σ (T + 2) := mpT_ne _ _ _ (by omega)
    have e3 : mpT σ T k (T + 3) = σ (T + 3) := mpT_ne _ _ _ (by omega)
    have e4 : mpT σ T k (T + 4) = σ (T + 4) := mpT_ne _ _ _ (by omega)
    obtain ⟨q1, q2⟩ := ih (mpT σ T k) (by omega) kp (by
      intro v hv hvn hne op a b h3 h8 ha hb g1 g2 g3
      rw [e2] at g1; rw [e3] at g2; rw [e4] at g3
      rw [p1 v hv] at hne
      by_cases hvk : v = k
      · subst hvk
        exact p3 hne op a b h3 h8 ha hb g1 g2 g3
      · have := hc v (by omega) hvn hne op a b h3 h8 ha hb g1 g2 g3
        exact ⟨p2 a this.1, p2 b this.2⟩)
    exact ⟨q1, fun u hu => q2 u (p2 u hu)⟩
/-- the class's and the reference's needed values -/
def NR (σ ρ : Nat → Nat → Int32) (n : Nat) : Prop := ∀ v, v < n → σ 25 v = ρ 117 v
theorem mp_rel (hT : 28 ≤ T) (h36 : n ≤ 36) : ∀ (k : Nat) (σ ρ : Nat → Nat → Int32), k ≤ n → (∀ v, v < n → VV σ ρ T v) → NR σ ρ n → NR (mpS T k σ) (mD k ρ) n := by
  intro k
  induction k with
  | zero => intro σ ρ _ _ h; exact h
  | succ k ih =>
    intro σ ρ hk hv h
    have vv : ∀ v, v < n → VV (mpT σ T k) (mDT ρ k) T v := by
      intro v hvn
      have := hv v hvn
      unfold VV at this ⊢
      rw [mpT_ne _ _ _ (by omega), mpT_ne _ _ _ (by omega), mpT_ne _ _ _ (by omega), mpT_ne _ _ _ (by omega), mDT_ne (by omega), mDT_ne (by omega), mDT_ne (by omega), mDT_ne (by omega)]
      exact this
    refine ih _ _ (by omega) vv ?_
    intro u hu
    unfold mpT mDT
    rcases hv k (by omega) with g | g | g
    · obtain ⟨_, g1, _, _, g4, _⟩ := g
      rw [if_neg (by rw [g1]; exact fun q => q.2.2 rfl), if_neg (by rw [g4]; exact fun q => absurd q.1 (by decide))]
      exact h u hu
    · obtain ⟨_, g1, _, g4, _⟩ := g
      rw [if_neg (by rw [g1]; exact fun q => q.2.1 rfl), if_neg (by rw [g4]; exact fun q => absurd q.1 (by decide))]
      exact h u hu
    · obtain ⟨_, op, a, b, h3, h8, ha, hb, g1, g2, g3, g4, g5, g6, g7⟩ := g
      rw [g1, g4, g2, g3, g6, g7, tN_nI (n := a) (by omega), tN_nI (n := b) (by omega)]
      by_cases hc : σ 25 k = 0
      · rw [if_neg (fun q => q.1 hc), if_neg (fun q => q.2 (by rw [← h k (by omega)]; exact hc))]
        exact h u hu
      · rw [if_pos ⟨hc, op_ne h3 h8⟩, if_pos ⟨rfl, fun q => hc (by rw [h k (by omega)]; exact q)⟩, z_up_row, z_up_row, z_up_row, z_up_row, upE, upE, upE, upE, h u hu]
theorem mcS_26 : ∀ i v, v < i → mcS σ T i 26 v = mcV (mcS σ T v) T v := by
  intro i
  induction i with
  | zero => intro v hv; omega
  | succ i ih =>
    intro v hv
    show z_up (mcS σ T i) 26 i (mcV (mcS σ T i) T i) 26 v = _
    rw [z_up_row, upE]
    by_cases h : v = i
    · rw [if_pos h, h]
    · rw [if_neg h]; exact ih v (by omega)
/-- constant: numbers, locals that stay, operations on constants -/
def cEq (σ : Nat → Nat → Int32) (T n : Nat) : Prop := ∀ v, v < n → (v < 6 ∧ σ 26 v = b2i (σ (T + 12) v = nI v)) ∨ (6 ≤ v ∧ σ (T + 2) v = 0 ∧ σ 26 v = 1) ∨ (6 ≤ v ∧ ∃ op a b, 3 ≤ op ∧ op ≤ 8 ∧ a < v ∧ b < v ∧ σ (T + 2) v = nI op ∧ σ (T + 3) v = nI a ∧ σ (T + 4) v = nI b ∧ σ 26 v = b2i (¬ σ 26 a = 0 ∧ ¬ σ 26 b = 0))
theorem mcS_cE (hT : 28 ≤ T) (h36 : n ≤ 36) (h : KP σ T n) : cEq (mcS σ T n) T n := by
  intro v hv
  rw [mcS_26 n v hv, mcS_ne _ _ _ (b := T + 12) (by omega), mcS_ne _ _ _ (b := T + 2) (by omega), mcS_ne _ _ _ (b := T + 3) (by omega), mcS_ne _ _ _ (b := T + 4) (by omega)]
  unfold mcV
  rw [mcS_ne _ _ _ (b := T + 12) (by omega), mcS_ne _ _ _ (b := T + 2) (by omega), mcS_ne _ _ _ (b := T + 3) (by omega), mcS_ne _ _ _ (b := T + 4) (by omega)]
  rcases h v hv with g | g | ⟨h6, op, a, b, h3, h8, ha, hb, g1, g2, g3⟩
  · refine Or.inl ⟨g.1, ?_⟩
    rw [g.2.1, if_neg (fun q => q.2 rfl)]
    have : ((1 : Int32) = 0 ∨ σ (T + 12) v = nI v) ↔ σ (T + 12) v = nI v := ⟨fun q => q.resolve_left (by decide), Or.inr⟩
    unfold b2i
    by_cases hx : σ (T + 12) v = nI v
    · rw [if_pos (this.mpr hx), if_pos hx]
    · rw [if_neg (fun q => hx (this.mp q)), if_neg hx]
  · refine Or.inr (Or.inl ⟨g.1, g.2, ?_⟩)
    rw [g.2, if_neg (fun q => q.1 rfl)]
    exact b2i_t (Or.inl rfl)
  · refine Or.inr (Or.inr ⟨h6, op, a, b, h3, h8, ha, hb, g1, g2, g3, ?_⟩)
    rw [g1, if_pos (op_ne h3 h8), g2, g3, tN_nI (n := a) (by omega), tN_nI (n := b) (by omega), mcS_26 n a (by omega), mcS_26 n b (by omega), mcS_26 v a ha, mcS_26 v b hb]
theorem mE_118 : ∀ i v, v < 6 + i → mE ρ i 118 v = if v < 6 then ρ 118 v else mEV (mE ρ (v - 6)) v := by
  intro i
  induction i with
  | zero => intro v hv; rw [if_pos (by omega)]; rfl
  | succ i ih =>
    intro v hv
    show z_up (mE ρ i) 118 (6 + i) (mEV (mE ρ i) (6 + i)) 118 v = _
    rw [z_up_row, upE]
    by_cases h : v = 6 + i
    · rw [if_pos h, if_neg (by omega), h, show 6 + i - 6 = i from by omega]
    · rw [if_neg h]; exact ih v (by omega)
/-- the class's and the reference's constant values -/
theorem cst_rel {σ1 ρ1 : Nat → Nat → Int32} (hT : 28 ≤ T) (h36 : n ≤ 36) (h6 : 6 ≤ n) (hv : ∀ v, v < n → VV σ1 ρ1 T v) (h12 : ∀ l, l < 6 → ρ1 118 l = b2i (σ1 (T + 12) l = nI l)) : ∀ v, v < n → mcS σ1 T n 26 v = mE ρ1 (n - 6) 118 v := by
  have hk : KP σ1 T n := by
    intro v hvn
    rcases hv v hvn with g | g | g
    · exact Or.inl ⟨g.1, g.2.1, g.2.2.1⟩
    · exact Or.inr (Or.inl ⟨g.1, g.2.1⟩)
    · obtain ⟨h6, op, a, b, h3, h8, ha, hb, g1, g2, g3, _⟩ := g
      exact Or.inr (Or.inr ⟨h6, op, a, b, h3, h8, ha, hb, g1, g2, g3⟩)
  have hc := mcS_cE hT h36 hk
  intro v
  induction v using Nat.strongRecOn with
  | ind v ih =>
    intro hvn
    rw [mE_118 _ v (by omega)]
    rcases hc v hvn with g | g | g
    · rw [if_pos g.1, h12 v g.1, g.2, mcS_ne _ _ _ (by omega)]
    · rw [if_neg (by omega), g.2.2]
      unfold mEV
      rw [mE_ne (by omega)]
      have := g.2.1
      rw [mcS_ne _ _ _ (by omega)] at this
      rcases hv v hvn with q | q | q
      · omega
      · exact (b2i_t (Or.inl q.2.2.2.1)).symm
      · obtain ⟨_, op, a, b, h3, h8, _, _, g1, _⟩ := q
        exact absurd (g1.symm.trans this) (op_ne h3 h8).1
    · obtain ⟨h6v, op, a, b, h3, h8, ha, hb, g1, g2, g3, g4⟩ := g
      rw [mcS_ne _ _ _ (by omega)] at g1 g2 g3
      rw [if_neg (by omega), g4]
      unfold mEV
      rw [mE_ne (b := 113) (by omega), mE_ne (b := 115) (by omega), mE_ne (b := 116) (by omega)]
      rcases hv v hvn with q | q | q
      · omega
      · exact absurd (g1.symm.trans q.2.1) (op_ne h3 h8).1
      · obtain ⟨_, op', a', b', h3', h8', ha', hb', q1, q2, q3, q4, q5, q6, q7⟩ := q
        have xa : a = a' := nI_inj (g2.symm.trans q2) (by omega) (by omega)
        have xb : b = b' := nI_inj (g3.symm.trans q3) (by omega) (by omega)
        subst xa; subst xb
        rw [q4, q6, q7, tN_nI (n := a) (by omega), tN_nI (n := b) (by omega), ih a ha (by omega), ih b hb (by omega), mE_118 _ a (by omega), mE_118 _ b (by omega), mE_118 (v - 6) a (by omega), mE_118 (v - 6) b (by omega)]
        generalize (if a < 6 then ρ1 118 a else mEV (mE ρ1 (a - 6)) a) = X
        generalize (if b < 6 then ρ1 118 b else mEV (mE ρ1 (b - 6)) b) = Y
        unfold b2i
        by_cases hx : ¬ X = 0 ∧ ¬ Y = 0
        · rw [if_pos hx, if_pos (Or.inr hx)]
        · rw [if_neg hx, if_neg (fun q => q.elim (fun q => absurd q (by decide)) hx)]
end
