/-! PART 79: both makers from their start to the recording's end -/
theorem rsV_row {σ : Nat → Nat → Int32} {T : Nat} : ∀ i, (∀ v, v < i → rsV σ T i (T + 2) v = 1 ∧ rsV σ T i (T + 3) v = nI v ∧ rsV σ T i (T + 4) v = 0) ∧ ∀ b, ¬ (T + 1 ≤ b ∧ b ≤ T + 5) → rsV σ T i b = σ b := by
  intro i
  induction i with
  | zero =>
    refine ⟨fun v hv => absurd hv (by omega), fun b hb => ?_⟩
    unfold rsV
    rw [z_up_ne _ _ _ (by omega)]
  | succ i ih =>
    refine ⟨fun v hv => ?_, fun b hb => ?_⟩
    · unfold rsV
      rw [shr_2, shr_3, shr_4, upE, upE, upE]
      by_cases hvi : v = i
      · rw [if_pos hvi, if_pos hvi, if_pos hvi, hvi]; exact ⟨rfl, rfl, rfl⟩
      · rw [if_neg hvi, if_neg hvi, if_neg hvi]; exact ih.1 v (by omega)
    · unfold rsV
      rw [shr_o (by omega), ih.2 b hb]
theorem mA_row {ρ : Nat → Nat → Int32} : ∀ i, (∀ v, v < i → mA ρ i 113 v = 1 ∧ mA ρ i 114 v = nI v ∧ mA ρ i 115 v = 0 ∧ mA ρ i 116 v = 0 ∧ mA ρ i 117 v = 0 ∧ mA ρ i 119 v = 0 ∧ mA ρ i 120 v = nI v) ∧ mA ρ i 92 44 = 0 ∧ (∀ b, ¬ (b = 92 ∨ (113 ≤ b ∧ b ≤ 120)) → mA ρ i b = ρ b) ∧ ∀ k, k ≠ 35 → k ≠ 44 → mA ρ i 92 k = ρ 92 k := by
  intro i
  induction i with
  | zero =>
    refine ⟨fun v hv => absurd hv (by omega), ?_, fun b hb => ?_, fun k h1 h2 => ?_⟩
    · unfold mA; rw [z_up_s]
    · unfold mA; rw [z_up_ne _ _ _ (by omega), z_up_ne _ _ _ (by omega)]
    · unfold mA; rw [z_up_o _ _ (Or.inr h2), z_up_o _ _ (Or.inr h1)]
  | succ i ih =>
    obtain ⟨i1, i2, i3, i4⟩ := ih
    refine ⟨fun v hv => ?_, ?_, fun b hb => ?_, fun k h1 h2 => ?_⟩
    · unfold mA
      obtain ⟨r1, r2, r3, r4, r5, r6, r7⟩ := @vlN_r (mA ρ i) i 1 (nI i) 0 0
      rw [z_up_ne (a := 113) _ _ _ (by omega), z_up_ne (a := 114) _ _ _ (by omega), z_up_ne (a := 115) _ _ _ (by omega), z_up_ne (a := 116) _ _ _ (by omega), z_up_ne (a := 117) _ _ _ (by omega), z_up_ne (a := 119) _ _ _ (by omega), z_up_row, r1, r2, r3, r4, r5, r7, vlN_o (b := 120) (by omega)]
      simp only [upE]
      by_cases hvi : v = i
      · subst hvi
        simp
      · simp only [if_neg hvi]; exact i1 v (by omega)
    · unfold mA; rw [z_up_ne _ _ _ (by omega), vlN_92, if_neg (by omega)]; exact i2
    · unfold mA; rw [z_up_ne _ _ _ (by omega), vlN_o (by omega)]; exact i3 b hb
    · unfold mA; rw [z_up_ne _ _ _ (by omega), vlN_92, if_neg h1]; exact i4 k h1 h2
theorem rsA_row {σ : Nat → Nat → Int32} {T b : Nat} {x : Int32} (h : b ≠ T ∧ b ≠ T + 6) : rsA σ T x b = rsV σ T 6 b := by
  unfold rsA
  rw [z_up_ne _ _ _ h.1, z_up_ne _ _ _ h.1, z_up_ne _ _ _ h.1, z_up_ne _ _ _ h.1, z_up_ne _ _ _ h.2]
theorem mk0_row {σ : Nat → Nat → Int32} {t b : Nat} (h : b ≠ tr t ∧ b ≠ tr t + 6) (h2 : b ≠ 19 ∧ b ≠ 20 ∧ b ≠ 21 ∧ b ≠ 25) : mk0 σ t b = rsV σ (tr t) 6 b := by
  unfold mk0
  rw [fg4_lo h2, rsA_row h]
theorem mk0_cells {σ : Nat → Nat → Int32} {t : Nat} : mk0 σ t 19 3 = 0 ∧ mk0 σ t 20 2 = 0 ∧ (∀ l, l < 6 → mk0 σ t 21 l = nI l) ∧ (∀ v, v < 36 → mk0 σ t 25 v = 0) ∧ mk0 σ t (tr t + 6) 5 = 0 ∧ mk0 σ t (tr t) 3 = σ 16 2 ∧ mk0 σ t (tr t) 4 = 0 ∧ mk0 σ t (tr t) 9 = 0 ∧ mk0 σ t (tr t) 5 = 0 := by
  have hT := tr_lo t
  have f4 : ∀ b, b ≠ 25 → mk0 σ t b = fg3 (rsA σ (tr t) (σ 16 2)) b := fun b hb => by unfold mk0 fg4; rw [rowF_ne _ _ _ hb]
  refine ⟨?_, ?_, fun l hl => ?_, fun v hv => ?_, ?_, ?_, ?_, ?_, ?_⟩
  · rw [f4 _ (by omega)]; unfold fg3; rw [z_up_s]
  · rw [f4 _ (by omega)]; unfold fg3 fg2; rw [z_up_ne _ _ _ (by omega), rowF_ne _ _ _ (by omega)]; unfold fg1; rw [z_up_o _ _ (by omega), z_up_s]
  · rw [f4 _ (by omega)]; unfold fg3; rw [z_up_ne _ _ _ (by omega)]; unfold fg2 rowF; rw [z_row_s, if_pos hl]
  · unfold mk0 fg4 rowF; rw [z_row_s, if_pos hv]
  · unfold mk0
    rw [fg4_lo (by omega)]
    unfold rsA
    rw [z_up_ne _ _ _ (by omega), z_up_ne _ _ _ (by omega), z_up_ne _ _ _ (by omega), z_up_ne _ _ _ (by omega), z_up_s]
  · unfold mk0
    rw [fg4_lo (by omega)]
    unfold rsA
    rw [z_up_o _ _ (by omega), z_up_o _ _ (by omega), z_up_o _ _ (by omega), z_up_s]
  · unfold mk0
    rw [fg4_lo (by omega)]
    unfold rsA
    rw [z_up_o _ _ (by omega), z_up_o _ _ (by omega), z_up_s]
  · unfold mk0
    rw [fg4_lo (by omega)]
    unfold rsA
    rw [z_up_o _ _ (by omega), z_up_s]
  · unfold mk0
    rw [fg4_lo (by omega)]
    unfold rsA
    rw [z_up_s]
theorem MI_0 {σ ρ : Nat → Nat → Int32} {t : Nat} : MI (tr t) 0 (mk0 σ t) (mA ρ 6) 6 0 0 0 := by
  have hT := tr_lo t
  obtain ⟨c1, c2, c3, c4, c5, _⟩ := @mk0_cells σ t
  obtain ⟨a1, a2, _⟩ := @mA_row ρ 6
  obtain ⟨v1, _⟩ := @rsV_row σ (tr t) 6
  have e : ∀ i, 1 ≤ i → i ≤ 5 → mk0 σ t (tr t + i) = rsV σ (tr t) 6 (tr t + i) := fun i h1 h5 => mk0_row (by omega) (by omega)
  refine ⟨⟨?_, mA_35 ρ 6, Nat.le_refl 6, fun v hv => Or.inl ⟨hv, ?_, ?_, ?_, ?_⟩⟩, by omega, ⟨by rw [c2, nI_0], by rw [a2, nI_0], by omega, fun l hl => ⟨?_, l, hl, c3 l hl⟩, fun s hs => absurd hs (by omega)⟩, by omega, ⟨by rw [c1, nI_0], by omega, fun i hi => absurd hi (by omega)⟩, ⟨fun v hv => ?_, fun v _ hv => c4 v hv⟩, ⟨by rw [c5, nI_0], fun i hi => absurd hi (by omega), fun b hb => ?_⟩⟩
  · rw [e 1 (by omega) (by omega)]; exact rsV_size σ (tr t) 6
  · rw [e 2 (by omega) (by omega)]; exact (v1 v hv).1
  · rw [e 3 (by omega) (by omega)]; exact (v1 v hv).2.1
  · rw [e 4 (by omega) (by omega)]; exact (v1 v hv).2.2
  · exact ⟨(a1 v hv).1, (a1 v hv).2.1, (a1 v hv).2.2.1, (a1 v hv).2.2.2.1⟩
  · rw [c3 l hl]; exact (a1 l hl).2.2.2.2.2.2.symm
  · rw [c4 v (by omega)]; exact (a1 v hv).2.2.2.2.1.symm
  · have : mA ρ 6 119 b = 0 := (a1 b hb).2.2.2.2.2.1
    rw [this]
    have hno : ∀ y, ¬ hasG (mk0 σ t) (tr t) 0 b y := fun y ⟨i, hi, _⟩ => absurd hi (by omega)
    exact ⟨Or.inl rfl, ⟨fun q => absurd (by decide) q, fun q => absurd q (hno 0)⟩, ⟨fun q => absurd (by decide) q, fun q => absurd q (hno 1)⟩⟩
def thS (ρ : Nat → Nat → Int32) (j : Nat) : Int32 × (Nat → Nat → Int32) := thO ρ j (tN (ρ 101 j)) (tN (ρ 93 (tN (ρ 101 j)))) (tN (ρ 92 35)) (tN (ρ 92 44))
/-- the reference's maker after j instructions -/
def rkF (ρ : Nat → Nat → Int32) : Nat → Nat → Nat → Int32
  | 0 => mA ρ 6
  | j + 1 => z_up (thS (rkF ρ j) j).2 122 j (thS (rkF ρ j) j).1
/-- the depth before the j-th recorded instruction -/
def dpt (op : Nat → Nat) : Nat → Nat
  | 0 => 0
  | j + 1 => dpt op j - tk (op j) + gv (op j)
/-- a recording of len instructions: places k, operations op -/
def REC (σ ρ : Nat → Nat → Int32) (len : Nat) (k op : Nat → Nat) : Prop := len ≤ 30 ∧ ∀ j, j < len → k j < 40 ∧ σ 17 j = nI (k j) ∧ ρ 101 j = nI (k j) ∧ (σ 18 j = 0 ∨ σ 18 j = 1) ∧ ρ 102 j = σ 18 j ∧ op j < 15 ∧ σ 2 (k j) = nI (op j) ∧ ρ 93 (k j) = nI (op j) ∧ σ 3 (k j) = ρ 94 (k j) ∧ (op j = 1 ∨ op j = 2 → tN (σ 3 (k j)) < 6 ∧ σ 3 (k j) = nI (tN (σ 3 (k j)))) ∧ tk (op j) ≤ dpt op j ∧ dpt op j - tk (op j) + gv (op j) ≤ 6
/-- numbers of the class's maker -/
def nV (σ : Nat → Nat → Int32) (T : Nat) : Nat := tN (σ (T + 1) 4)
def gV (σ : Nat → Nat → Int32) (T : Nat) : Nat := tN (σ (T + 6) 5)
def cV (σ : Nat → Nat → Int32) : Nat := tN (σ 19 3)
theorem MI.nums {T j : Nat} {σ ρ : Nat → Nat → Int32} {n e g c : Nat} (hj : j ≤ 30) (h : MI T j σ ρ n e g c) : nV σ T = n ∧ tN (σ 20 2) = e ∧ gV σ T = g ∧ cV σ = c ∧ tN (ρ 92 35) = n ∧ tN (ρ 92 44) = e := by
  obtain ⟨m1, m2, m3, m4, m5, m6, m7⟩ := h
  have := m5.2.1
  have := m3.2.2.1
  unfold nV gV cV
  rw [m1.1, m3.1, m7.1, m5.1, m1.2.1, m3.2.1]
  exact ⟨tN_nI (by omega), tN_nI (by omega), tN_nI (by omega), tN_nI (by omega), tN_nI (by omega), tN_nI (by omega)⟩
section
variable {σ ρ : Nat → Nat → Int32} {t len : Nat} {k op : Nat → Nat}
theorem mk_all (h : REC σ ρ len k op) : ∀ j, j ≤ len → MI (tr t) j (mkF (mk0 σ t) (tr t) j) (rkF ρ j) (nV (mkF (mk0 σ t) (tr t) j) (tr t)) (dpt op j) (gV (mkF (mk0 σ t) (tr t) j) (tr t)) (cV (mkF (mk0 σ t) (tr t) j)) ∧ (∀ b, ¬ (b = 92 ∨ (113 ≤ b ∧ b ≤ 122)) → rkF ρ j b = ρ b) ∧ (∀ i, i ≠ 35 → i ≠ 44 → rkF ρ j 92 i = ρ 92 i) ∧ ∀ b, ¬ ((19 ≤ b ∧ b ≤ 25) ∨ (tr t ≤ b ∧ b ≤ tr t + 11)) → mkF (mk0 σ t) (tr t) j b = σ b := by
  have hT := tr_lo t
  intro j
  induction j with
  | zero =>
    intro _
    have q := @MI_0 σ ρ t
    have := q.nums (by omega)
    refine ⟨?_, fun b hb => ?_, fun i h1 h2 => ?_, fun b hb => ?_⟩
    · show MI (tr t) 0 (mk0 σ t) (mA ρ 6) (nV (mk0 σ t) (tr t)) 0 (gV (mk0 σ t) (tr t)) (cV (mk0 σ t))
      rw [this.1, this.2.2.1, this.2.2.2.1]
      exact q
    · exact (mA_row 6).2.2.1 b (by omega)
    · exact (mA_row 6).2.2.2 i h1 h2
    · show mk0 σ t b = σ b
      rw [mk0_row (by omega) (by omega), (rsV_row 6).2 b (by omega)]
  | succ j ih =>
    intro hj
    obtain ⟨i1, i2, i3, i4⟩ := ih (by omega)
    obtain ⟨h30, hr⟩ := h
    obtain ⟨r1, r2, r3, r4, r5, r6, r7, r8, r9, r10, r11, r12⟩ := hr j (by omega)
    obtain ⟨u1, u2, u3, u4, u5, u6⟩ := i1.nums (by omega)
    have e17 : mk0 σ t 17 = σ 17 := mk0_lo (by omega)
    have e18 : mk0 σ t 18 = σ 18 := mk0_lo (by omega)
    have ek : tN (mk0 σ t 17 j) = k j := by rw [e17, r2, tN_nI (by omega)]
    have a1 : mkF (mk0 σ t) (tr t) (j + 1) = flO (mkF (mk0 σ t) (tr t) j) (tr t) (k j) (σ 18 j) (op j) (nV (mkF (mk0 σ t) (tr t) j) (tr t)) (dpt op j) := by
      show flS (mkF (mk0 σ t) (tr t) j) (tr t) (tN (mk0 σ t 17 j)) (mk0 σ t 18 j) = _
      rw [ek, e18]
      unfold flS
      rw [u2, i4 2 (by omega), r7, tN_nI (by omega)]
      rfl
    have a2 : thS (rkF ρ j) j = thO (rkF ρ j) j (k j) (op j) (nV (mkF (mk0 σ t) (tr t) j) (tr t)) (dpt op j) := by
      unfold thS
      rw [u5, u6, i2 101 (by omega), r3, tN_nI (by omega), i2 93 (by omega), r8, tN_nI (by omega), u1]
    have a3 : rkF ρ (j + 1) = z_up (thO (rkF ρ j) j (k j) (op j) (nV (mkF (mk0 σ t) (tr t) j) (tr t)) (dpt op j)).2 122 j (thO (rkF ρ j) j (k j) (op j) (nV (mkF (mk0 σ t) (tr t) j) (tr t)) (dpt op j)).1 := by
      show z_up (thS (rkF ρ j) j).2 122 j (thS (rkF ρ j) j).1 = _
      rw [a2]
    have st := mk_step (p := k j) (y := σ 18 j) i1 (by omega) r6 r11 r12 (by rw [i4 3 (by omega), i2 94 (by omega)]; exact r9) (by rw [i4 3 (by omega)]; exact fun q => (r10 (Or.inl q)).1) r4 (by rw [i2 102 (by omega)]; exact r5)
    obtain ⟨n', g', c', s1, s2, s3, s4⟩ := st
    rw [← a1, ← a3] at s1
    have w := s1.nums (by omega)
    refine ⟨?_, fun b hb => ?_, fun i h1 h2 => ?_, fun b hb => ?_⟩
    · rw [w.1, w.2.2.1, w.2.2.2.1]
      exact s1
    · rw [a3, s3.1 b hb, i2 b hb]
    · rw [a3, s3.2.1 i h1 h2, i3 i h1 h2]
    · rw [a1, s2.2.2.2.2.2.2.2.2 b (by omega), i4 b hb]
/-- what the j-th instruction adds -/
theorem mk_one (h : REC σ ρ len k op) {j : Nat} (hj : j < len) : SOm (tr t) (mkF (mk0 σ t) (tr t) j) (mkF (mk0 σ t) (tr t) (j + 1)) (nV (mkF (mk0 σ t) (tr t) j) (tr t)) (nV (mkF (mk0 σ t) (tr t) (j + 1)) (tr t)) (gV (mkF (mk0 σ t) (tr t) j) (tr t)) (gV (mkF (mk0 σ t) (tr t) (j + 1)) (tr t)) (cV (mkF (mk0 σ t) (tr t) j)) (cV (mkF (mk0 σ t) (tr t) (j + 1))) ∧ (∀ i, i < j → rkF ρ (j + 1) 122 i = rkF ρ j 122 i) ∧
    ∃ w, SOv (tr t) (op j) (k j) (σ 3 (k j)) (σ 18 j) w (mkF (mk0 σ t) (tr t) j) (mkF (mk0 σ t) (tr t) (j + 1)) (nV (mkF (mk0 σ t) (tr t) j) (tr t)) (nV (mkF (mk0 σ t) (tr t) (j + 1)) (tr t)) (dpt op j) (gV (mkF (mk0 σ t) (tr t) j) (tr t)) (gV (mkF (mk0 σ t) (tr t) (j + 1)) (tr t)) (cV (mkF (mk0 σ t) (tr t) j)) (cV (mkF (mk0 σ t) (tr t) (j + 1))) (rkF ρ (j + 1) 122 j) ∧
      stp (op j) (tN (σ 3 (k j))) w (mkF (mk0 σ t) (tr t) j 21) (mkF (mk0 σ t) (tr t) j 22) (dpt op j) (mkF (mk0 σ t) (tr t) (j + 1) 21) (mkF (mk0 σ t) (tr t) (j + 1) 22) (dpt op (j + 1)) := by
  have hT := tr_lo t
  obtain ⟨i1, i2, i3, i4⟩ := mk_all (t := t) h j (by omega)
  obtain ⟨h30, hr⟩ := h
  obtain ⟨r1, r2, r3, r4, r5, r6, r7, r8, r9, r10, r11, r12⟩ := hr j hj
  obtain ⟨u1, u2, u3, u4, u5, u6⟩ := i1.nums (by omega)
  have e17 : mk0 σ t 17 = σ 17 := mk0_lo (by omega)
  have e18 : mk0 σ t 18 = σ 18 := mk0_lo (by omega)
  have ek : tN (mk0 σ t 17 j) = k j := by rw [e17, r2, tN_nI (by omega)]
  have a1 : mkF (mk0 σ t) (tr t) (j + 1) = flO (mkF (mk0 σ t) (tr t) j) (tr t) (k j) (σ 18 j) (op j) (nV (mkF (mk0 σ t) (tr t) j) (tr t)) (dpt op j) := by
    show flS (mkF (mk0 σ t) (tr t) j) (tr t) (tN (mk0 σ t 17 j)) (mk0 σ t 18 j) = _
    rw [ek, e18]
    unfold flS
    rw [u2, i4 2 (by omega), r7, tN_nI (by omega)]
    rfl
  have a2 : thS (rkF ρ j) j = thO (rkF ρ j) j (k j) (op j) (nV (mkF (mk0 σ t) (tr t) j) (tr t)) (dpt op j) := by
    unfold thS
    rw [u5, u6, i2 101 (by omega), r3, tN_nI (by omega), i2 93 (by omega), r8, tN_nI (by omega), u1]
  have a3 : rkF ρ (j + 1) = z_up (thO (rkF ρ j) j (k j) (op j) (nV (mkF (mk0 σ t) (tr t) j) (tr t)) (dpt op j)).2 122 j (thO (rkF ρ j) j (k j) (op j) (nV (mkF (mk0 σ t) (tr t) j) (tr t)) (dpt op j)).1 := by
    show z_up (thS (rkF ρ j) j).2 122 j (thS (rkF ρ j) j).1 = _
    rw [a2]
  have fr := fl_frame (t := t) (p := k j) (n := nV (mkF (mk0 σ t) (tr t) j) (tr t)) (y := σ 18 j) r6 r11 i1.2.2.1.1
  have st := mk_step (p := k j) (y := σ 18 j) i1 (by omega) r6 r11 r12 (by rw [i4 3 (by omega), i2 94 (by omega)]; exact r9) (by rw [i4 3 (by omega)]; exact fun q => (r10 (Or.inl q)).1) r4 (by rw [i2 102 (by omega)]; exact r5)
  obtain ⟨n', g', c', s1, s2, s3, s4⟩ := st
  have s3' := s3.2.2
  rw [← a3] at s3'
  have eR : rkF ρ (j + 1) 122 j = (thO (rkF ρ j) j (k j) (op j) (nV (mkF (mk0 σ t) (tr t) j) (tr t)) (dpt op j)).1 := by rw [a3, z_up_s]
  rw [← a1, ← a3] at s1
  rw [← a1] at s2
  rw [← a1, ← eR, i4 3 (by omega)] at s4
  rw [← a1, i4 3 (by omega)] at fr
  have w := s1.nums (by omega)
  rw [← w.1, ← w.2.2.1, ← w.2.2.2.1] at s2 s4
  exact ⟨s2, s3', _, s4, fr.1⟩
end
